set_option maxHeartbeats 4000000 in
set_option maxRecDepth 20000 in
theorem k_X5_best (l : Launch) (G : va_G) (Y : Nat → Nat) (xo h0 h1 hh sl sv tz az : Nat) (lf : Nat → Nat) (tk bt : Nat → Int32) (bw : Int32) (ρ : Nat → Nat) (γ : Nat → Nat → Nat) (hI : Inv ρ) : CtI l yX5_best cX5_best 1 .int 16 437 [.ref xo] [[(xo, .inr (4, [.ref h0, .ref h1, .ref hh, .ref sl, .ref sv, .ref tz, .ref az]))], aucW Y h0 ρ γ, asgW Y az lf tk bt bw] (fun r sg => r = nI (worA ρ 0 0) ∧ ∃ (lf' : Nat → Nat) (tk' : Nat → Int32) (bt' : Nat → Int32) (bw' : Int32), sg = [[(xo, .inr (4, [.ref h0, .ref h1, .ref hh, .ref sl, .ref sv, .ref tz, .ref az]))], aucW Y h0 ρ γ, asgW Y az lf' tk' bt' bw']) G Y := by
  refine x_ofI (by decide) (Nat.le_of_ble_eq_true rfl) (fun p e s m args below meth c A ls Q M hK hZ hw hl hret => ?_)
  obtain ⟨hx, hb, -⟩ := id M
  have hl : lv_has ls 1 [(0, .ref xo)] := hl
  have := hI.n6
  have := hI.over
  have := hI.keep
  have := hI.stepp
  refine lv_aload_n hx hb dX5_best_0 rfl (lv_at hl 0 rfl) ?_
  refine x_get M hK hw 0 0 rfl rfl ff_X5_44 rfl dX5_best_1 ?_
  refine lv_aload_n hx hb dX5_best_4 rfl (lv_at hl 0 rfl) ?_
  refine x_get M hK hw 0 0 rfl rfl ff_X5_10 rfl dX5_best_5 ?_
  refine lv_iconst (v := (mw 0)) hx hb dX5_best_8 (by decide) ?_
  refine lv_iconst (v := (mw 0)) hx hb dX5_best_9 (by decide) ?_
  refine x_cVI (As := [.ref h0, .int (mw 0), .int (mw 0)]) (k_X0_find l G Y az h0 lf tk bt bw ρ γ 0 0 (hI) (by omega) (by omega)) cw_X5_253 [2, 1] 2 0 M hK hZ hw hl.1 rfl (by decide) rfl rfl rfl ⟨by decide, by decide⟩ ⟨Nat.zero_le _, Nat.zero_le _⟩ rfl rfl (Nat.le_of_ble_eq_true rfl) dX5_best_10 (fun r sg h_1 H locs hw => ?_)
  obtain ⟨rfl, lfa2, tka3, bta4, hba5, rfl⟩ := h_1
  have hw : xW G A s.heap [[(xo, .inr (4, [.ref h0, .ref h1, .ref hh, .ref sl, .ref sv, .ref tz, .ref az]))], aucW Y h0 ρ γ, asgW Y az lfa2 tka3 bta4 (nI (worA ρ 0 0))] H locs := hw
  have q_6 : worA ρ 0 0 ≤ 16199838 := worA_le hI
  exact hret _ _ _ (nI (worA ρ 0 0)) _ _ dX5_best_13 hw rfl rfl ⟨rfl, _, _, _, _, rfl⟩
set_option maxHeartbeats 4000000 in
set_option maxRecDepth 20000 in
theorem k_X5_gets (l : Launch) (G : va_G) (Y : Nat → Nat) (xo h0 h1 hh sl sv tz az : Nat) (j : Nat) (lf : Nat → Nat) (tk bt : Nat → Int32) (bw : Int32) (ρ : Nat → Nat) (γ : Nat → Nat → Nat) (hI : Inv ρ) (hj : j < ρ 4) : CtI l yX5_gets cX5_gets 2 .int 16 437 [.ref xo, .int (nI j)] [[(xo, .inr (4, [.ref h0, .ref h1, .ref hh, .ref sl, .ref sv, .ref tz, .ref az]))], aucW Y h0 ρ γ, asgW Y az lf tk bt bw] (fun r sg => r = mw (choA ρ 0 0 j) ∧ ∃ (lf' : Nat → Nat) (tk' : Nat → Int32) (bt' : Nat → Int32) (bw' : Int32), sg = [[(xo, .inr (4, [.ref h0, .ref h1, .ref hh, .ref sl, .ref sv, .ref tz, .ref az]))], aucW Y h0 ρ γ, asgW Y az lf' tk' bt' bw']) G Y := by
  refine x_ofI (by decide) (Nat.le_of_ble_eq_true rfl) (fun p e s m args below meth c A ls Q M hK hZ hw hl hret => ?_)
  obtain ⟨hx, hb, -⟩ := id M
  have hl : lv_has ls 2 [(0, .ref xo), (1, .int (nI j))] := hl
  have := hI.n6
  have := hI.over
  have := hI.keep
  have := hI.stepp
  refine lv_aload_n hx hb dX5_gets_0 rfl (lv_at hl 0 rfl) ?_
  refine lv_iload_n hx hb dX5_gets_1 rfl (lv_at hl 1 rfl) ?_
  refine x_cVV (As := [.int (nI j)]) (k_X5_needBidder l G Y xo h0 h1 hh sl sv tz az j ρ γ (hI) (by omega)) cw_X5_133 [0, 1] 0 0 M hK hZ hw hl.1 rfl (by decide) rfl rfl rfl ⟨by decide, by decide⟩ ⟨Nat.zero_le _, Nat.zero_le _⟩ rfl rfl (Nat.le_of_ble_eq_true rfl) dX5_gets_2 (fun sg h_1 H locs hw => ?_)
  obtain rfl := h_1
  have hw : xW G A s.heap [[(xo, .inr (4, [.ref h0, .ref h1, .ref hh, .ref sl, .ref sv, .ref tz, .ref az]))], aucW Y h0 ρ γ, asgW Y az lf tk bt bw] H locs := hw
  refine lv_aload_n hx hb dX5_gets_5 rfl (lv_at hl 0 rfl) ?_
  refine x_get M hK hw 0 0 rfl rfl ff_X5_44 rfl dX5_gets_6 ?_
  refine lv_aload_n hx hb dX5_gets_9 rfl (lv_at hl 0 rfl) ?_
  refine x_get M hK hw 0 0 rfl rfl ff_X5_10 rfl dX5_gets_10 ?_
  refine lv_iconst (v := (mw 0)) hx hb dX5_gets_13 (by decide) ?_
  refine lv_iconst (v := (mw 0)) hx hb dX5_gets_14 (by decide) ?_
  refine x_cVI (As := [.ref h0, .int (mw 0), .int (mw 0)]) (k_X0_find l G Y az h0 lf tk bt bw ρ γ 0 0 (hI) (by omega) (by omega)) cw_X5_253 [2, 1] 2 0 M hK hZ hw hl.1 rfl (by decide) rfl rfl rfl ⟨by decide, by decide⟩ ⟨Nat.zero_le _, Nat.zero_le _⟩ rfl rfl (Nat.le_of_ble_eq_true rfl) dX5_gets_15 (fun r sg h_2 H locs hw => ?_)
  obtain ⟨rfl, lfa3, tka4, bta5, hba6, rfl⟩ := h_2
  have hw : xW G A s.heap [[(xo, .inr (4, [.ref h0, .ref h1, .ref hh, .ref sl, .ref sv, .ref tz, .ref az]))], aucW Y h0 ρ γ, asgW Y az lfa3 tka4 bta5 (nI (worA ρ 0 0))] H locs := hw
  have q_7 : worA ρ 0 0 ≤ 16199838 := worA_le hI
  refine lv_pop hx hb dX5_gets_18 rfl ?_
  refine lv_aload_n hx hb dX5_gets_19 rfl (lv_at hl 0 rfl) ?_
  refine x_get M hK hw 0 0 rfl rfl ff_X5_44 rfl dX5_gets_20 ?_
  refine lv_iload_n hx hb dX5_gets_23 rfl (lv_at hl 1 rfl) ?_
  refine x_cVI (As := [.int (nI j)]) (k_X0_packOf l G Y az j lfa3 tka4 bta5 (nI (worA ρ 0 0)) (by omega)) cw_X5_257 [2] 2 0 M hK hZ hw hl.1 rfl (by decide) rfl rfl rfl ⟨by decide, by decide⟩ ⟨Nat.zero_le _, Nat.zero_le _⟩ rfl rfl (Nat.le_of_ble_eq_true rfl) dX5_gets_24 (fun r sg h_8 H locs hw => ?_)
  obtain ⟨rfl, rfl⟩ := h_8
  have hw : xW G A s.heap [[(xo, .inr (4, [.ref h0, .ref h1, .ref hh, .ref sl, .ref sv, .ref tz, .ref az]))], aucW Y h0 ρ γ, asgW Y az lfa3 tka4 bta5 (nI (worA ρ 0 0))] H locs := hw
  refine x_topI (y := mw (choA ρ 0 0 j)) (hba6 j hj) ?_
  exact hret _ _ _ (mw (choA ρ 0 0 j)) _ _ dX5_gets_27 hw rfl rfl ⟨rfl, _, _, _, _, rfl⟩
set_option maxHeartbeats 4000000 in
set_option maxRecDepth 20000 in
theorem t_X5_gets (l : Launch) (hfl : l.stackTraces = false) (G : va_G) (Y : Nat → Nat) (xo h0 h1 hh sl sv tz az : Nat) (b : Int32) (ρ : Nat → Nat) (γ : Nat → Nat → Nat) (hI : Inv ρ) (hk : (!inZ b.toInt 0 ((ρ 4 : Int) - 1)) = true) : CtT l yX5_gets cX5_gets 2 (some .int) 7 103 [.ref xo, .int b] [[(xo, .inr (4, [.ref h0, .ref h1, .ref hh, .ref sl, .ref sv, .ref tz, .ref az]))], aucW Y h0 ρ γ] eIOB G Y := by
  refine x_ofT (by decide) (Nat.le_of_ble_eq_true rfl) (fun p e s m args below meth c A ls Q M hK hZ hw hl htab hlk hQ => ?_)
  obtain ⟨hx, hb, -⟩ := id M
  have hl : lv_has ls 2 [(0, .ref xo), (1, .int b)] := hl
  refine lv_aload_n hx hb dX5_gets_0 rfl (lv_at hl 0 rfl) ?_
  refine lv_iload_n hx hb dX5_gets_1 rfl (lv_at hl 1 rfl) ?_
  exact x_cVT (As := [.int b]) (t_X5_needBidder l hfl G Y xo h0 h1 hh sl sv tz az b ρ γ (hI) (by omega)) cw_X5_133 [0, 1] 0 0 M hK hZ hw hl.1 rfl (by decide) rfl rfl rfl ⟨by decide, by decide⟩ ⟨by decide, by decide⟩ rfl rfl (Nat.le_of_ble_eq_true rfl) dX5_gets_2 htab hlk hQ
set_option maxHeartbeats 4000000 in
set_option maxRecDepth 20000 in
theorem k_X5_pays (l : Launch) (G : va_G) (Y : Nat → Nat) (xo h0 h1 hh sl sv tz az : Nat) (j : Nat) (lf : Nat → Nat) (tk bt : Nat → Int32) (bw : Int32) (ρ : Nat → Nat) (γ : Nat → Nat → Nat) (hI : Inv ρ) (hj : j < ρ 4) : CtI l yX5_pays cX5_pays 5 .int 16 437 [.ref xo, .int (nI j)] [[(xo, .inr (4, [.ref h0, .ref h1, .ref hh, .ref sl, .ref sv, .ref tz, .ref az]))], aucW Y h0 ρ γ, asgW Y az lf tk bt bw] (fun r sg => r = nI (worA ρ (1 + j) 0) - (nI (worA ρ 0 0) - nI (wOf ρ j (choA ρ 0 0 j))) ∧ ∃ (lf' : Nat → Nat) (tk' : Nat → Int32) (bt' : Nat → Int32) (bw' : Int32), sg = [[(xo, .inr (4, [.ref h0, .ref h1, .ref hh, .ref sl, .ref sv, .ref tz, .ref az]))], aucW Y h0 ρ γ, asgW Y az lf' tk' bt' bw']) G Y := by
  refine x_ofI (by decide) (Nat.le_of_ble_eq_true rfl) (fun p e s m args below meth c A ls Q M hK hZ hw hl hret => ?_)
  obtain ⟨hx, hb, -⟩ := id M
  have hl : lv_has ls 5 [(0, .ref xo), (1, .int (nI j))] := hl
  have := hI.n6
  have := hI.over
  have := hI.keep
  have := hI.stepp
  refine lv_aload_n hx hb dX5_pays_0 rfl (lv_at hl 0 rfl) ?_
  refine lv_iload_n hx hb dX5_pays_1 rfl (lv_at hl 1 rfl) ?_
  refine x_cVV (As := [.int (nI j)]) (k_X5_needBidder l G Y xo h0 h1 hh sl sv tz az j ρ γ (hI) (by omega)) cw_X5_133 [0, 1] 0 0 M hK hZ hw hl.1 rfl (by decide) rfl rfl rfl ⟨by decide, by decide⟩ ⟨Nat.zero_le _, Nat.zero_le _⟩ rfl rfl (Nat.le_of_ble_eq_true rfl) dX5_pays_2 (fun sg h_1 H locs hw => ?_)
  obtain rfl := h_1
  have hw : xW G A s.heap [[(xo, .inr (4, [.ref h0, .ref h1, .ref hh, .ref sl, .ref sv, .ref tz, .ref az]))], aucW Y h0 ρ γ, asgW Y az lf tk bt bw] H locs := hw
  refine lv_aload_n hx hb dX5_pays_5 rfl (lv_at hl 0 rfl) ?_
  refine x_get M hK hw 0 0 rfl rfl ff_X5_44 rfl dX5_pays_6 ?_
  refine lv_aload_n hx hb dX5_pays_9 rfl (lv_at hl 0 rfl) ?_
  refine x_get M hK hw 0 0 rfl rfl ff_X5_10 rfl dX5_pays_10 ?_
  refine lv_iconst (v := (mw 0)) hx hb dX5_pays_13 (by decide) ?_
  refine lv_iconst (v := (mw 0)) hx hb dX5_pays_14 (by decide) ?_
  refine x_cVI (As := [.ref h0, .int (mw 0), .int (mw 0)]) (k_X0_find l G Y az h0 lf tk bt bw ρ γ 0 0 (hI) (by omega) (by omega)) cw_X5_253 [2, 1] 2 0 M hK hZ hw hl.1 rfl (by decide) rfl rfl rfl ⟨by decide, by decide⟩ ⟨Nat.zero_le _, Nat.zero_le _⟩ rfl rfl (Nat.le_of_ble_eq_true rfl) dX5_pays_15 (fun r sg h_2 H locs hw => ?_)
  obtain ⟨rfl, lfa3, tka4, bta5, hba6, rfl⟩ := h_2
  have hw : xW G A s.heap [[(xo, .inr (4, [.ref h0, .ref h1, .ref hh, .ref sl, .ref sv, .ref tz, .ref az]))], aucW Y h0 ρ γ, asgW Y az lfa3 tka4 bta5 (nI (worA ρ 0 0))] H locs := hw
  have q_7 : worA ρ 0 0 ≤ 16199838 := worA_le hI
  refine lv_istore_n (lv' := [(2, .int (nI (worA ρ 0 0))), (0, .ref xo), (1, .int (nI j))]) hx hb dX5_pays_18 rfl hl (by decide) rfl (fun ls hl => ?_)
  refine lv_aload_n hx hb dX5_pays_19 rfl (lv_at hl 1 rfl) ?_
  refine x_get M hK hw 0 0 rfl rfl ff_X5_44 rfl dX5_pays_20 ?_
  refine lv_iload_n hx hb dX5_pays_23 rfl (lv_at hl 2 rfl) ?_
  refine x_cVI (As := [.int (nI j)]) (k_X0_packOf l G Y az j lfa3 tka4 bta5 (nI (worA ρ 0 0)) (by omega)) cw_X5_257 [2] 2 0 M hK hZ hw hl.1 rfl (by decide) rfl rfl rfl ⟨by decide, by decide⟩ ⟨Nat.zero_le _, Nat.zero_le _⟩ rfl rfl (Nat.le_of_ble_eq_true rfl) dX5_pays_24 (fun r sg h_8 H locs hw => ?_)
  obtain ⟨rfl, rfl⟩ := h_8
  have hw : xW G A s.heap [[(xo, .inr (4, [.ref h0, .ref h1, .ref hh, .ref sl, .ref sv, .ref tz, .ref az]))], aucW Y h0 ρ γ, asgW Y az lfa3 tka4 bta5 (nI (worA ρ 0 0))] H locs := hw
  refine x_topI (y := mw (choA ρ 0 0 j)) (hba6 j hj) ?_
  refine lv_istore_n (lv' := [(3, .int (mw (choA ρ 0 0 j))), (2, .int (nI (worA ρ 0 0))), (0, .ref xo), (1, .int (nI j))]) hx hb dX5_pays_27 rfl hl (by decide) rfl (fun ls hl => ?_)
  refine lv_iload_n hx hb dX5_pays_28 rfl (lv_at hl 0 rfl) ?_
  refine lv_iconst (v := (mw 0)) hx hb dX5_pays_29 (by decide) ?_
  refine lv_icmp_ne (tgt := 37) hx hb dX5_pays_30 (by decide) (fun c_9 => ?_) (fun c_9 => ?_)
  · have hc0 : 0 < choA ρ 0 0 j := Nat.pos_of_ne_zero (fun z => c_9 (by rw [z]))
    rw [mw_p hc0] at hl
    have hc1 := choA_ok (w := 0) (m := 0) hI (by decide) hj
    have hpk := hI.pck (j := j) hj rfl
    refine lv_aload_n hx hb dX5_pays_37 rfl (lv_at hl 2 rfl) ?_
    refine x_get M hK hw 0 0 rfl rfl ff_X5_10 rfl dX5_pays_38 ?_
    refine lv_iload_n hx hb dX5_pays_41 rfl (lv_at hl 3 rfl) ?_
    refine lv_iload_n hx hb dX5_pays_42 rfl (lv_at hl 0 rfl) ?_
    refine x_cVI (As := [.int (nI j), .int (nI (choA ρ 0 0 j - 1))]) (k_X1_packValue l G Y h0 j (choA ρ 0 0 j - 1) ρ γ (hI) (by omega) (by omega)) cw_X5_165 [1] 1 0 M hK hZ hw hl.1 rfl (by decide) rfl rfl rfl ⟨by decide, by decide⟩ ⟨Nat.zero_le _, Nat.zero_le _⟩ rfl rfl (Nat.le_of_ble_eq_true rfl) dX5_pays_43 (fun r sg h_10 H locs hw => ?_)
    obtain ⟨rfl, rfl⟩ := h_10
    have hw : xW G A s.heap [[(xo, .inr (4, [.ref h0, .ref h1, .ref hh, .ref sl, .ref sv, .ref tz, .ref az]))], aucW Y h0 ρ γ, asgW Y az lfa3 tka4 bta5 (nI (worA ρ 0 0))] H locs := hw
    have q_11 : worOf ρ j (choA ρ 0 0 j - 1) ≤ 2699973 := worOf_le hI (by omega) (by omega)
    refine x_topN (n := wOf ρ j (choA ρ 0 0 j)) (congrArg nI (by unfold wOf; rw [if_neg (by omega)])) ?_
    refine lv_istore (lv' := [(4, .int (nI (wOf ρ j (choA ρ 0 0 j)))), (3, .int (nI (choA ρ 0 0 j - 1))), (2, .int (nI (worA ρ 0 0))), (0, .ref xo), (1, .int (nI j))]) hx hb dX5_pays_46 hl (by decide) rfl (fun ls hl => ?_)
    refine lv_aload_n hx hb dX5_pays_48 rfl (lv_at hl 3 rfl) ?_
    refine x_get M hK hw 0 0 rfl rfl ff_X5_44 rfl dX5_pays_49 ?_
    refine lv_aload_n hx hb dX5_pays_52 rfl (lv_at hl 3 rfl) ?_
    refine x_get M hK hw 0 0 rfl rfl ff_X5_10 rfl dX5_pays_53 ?_
    refine lv_iload_n hx hb dX5_pays_56 rfl (lv_at hl 4 rfl) ?_
    refine x_topI (y := mw (1 + j)) mwN_1.symm ?_
    refine lv_iconst (v := (mw 0)) hx hb dX5_pays_57 (by decide) ?_
    refine x_cVI (As := [.ref h0, .int (mw (1 + j)), .int (mw 0)]) (k_X0_find l G Y az h0 lfa3 tka4 bta5 (nI (worA ρ 0 0)) ρ γ (1 + j) 0 (hI) (by omega) (by omega)) cw_X5_253 [2, 1] 2 0 M hK hZ hw hl.1 rfl (by decide) rfl rfl rfl ⟨by decide, by decide⟩ ⟨Nat.zero_le _, Nat.zero_le _⟩ rfl rfl (Nat.le_of_ble_eq_true rfl) dX5_pays_58 (fun r sg h_12 H locs hw => ?_)
    obtain ⟨rfl, lfa13, tka14, bta15, hba16, rfl⟩ := h_12
    have hw : xW G A s.heap [[(xo, .inr (4, [.ref h0, .ref h1, .ref hh, .ref sl, .ref sv, .ref tz, .ref az]))], aucW Y h0 ρ γ, asgW Y az lfa13 tka14 bta15 (nI (worA ρ (1 + j) 0))] H locs := hw
    have q_17 : worA ρ (1 + j) 0 ≤ 16199838 := worA_le hI
    refine lv_iload_n hx hb dX5_pays_61 rfl (lv_at hl 2 rfl) ?_
    refine lv_iload hx hb dX5_pays_62 (lv_at hl 0 rfl) ?_
    refine lv_isub hx hb dX5_pays_64 ?_
    refine lv_isub hx hb dX5_pays_65 ?_
    exact hret _ _ _ ((nI (worA ρ (1 + j) 0)) - ((nI (worA ρ 0 0)) - (nI (wOf ρ j (choA ρ 0 0 j))))) _ _ dX5_pays_66 hw rfl rfl ⟨rfl, _, _, _, _, rfl⟩
  have hc0 : choA ρ 0 0 j = 0 := mw_inj (Nat.lt_of_lt_of_le dP_5 (by decide)) (by decide) c_9
  refine lv_iconst (v := (nI 0)) hx hb dX5_pays_33 (by decide) ?_
  refine lv_goto (tgt := 46) hx hb dX5_pays_34 (by decide) ?_
  refine x_topN (n := wOf ρ j (choA ρ 0 0 j)) (congrArg nI (by unfold wOf; rw [if_pos hc0])) ?_
  refine lv_istore (lv' := [(4, .int (nI (wOf ρ j (choA ρ 0 0 j)))), (3, .int (mw (choA ρ 0 0 j))), (2, .int (nI (worA ρ 0 0))), (0, .ref xo), (1, .int (nI j))]) hx hb dX5_pays_46 hl (by decide) rfl (fun ls hl => ?_)
  refine lv_aload_n hx hb dX5_pays_48 rfl (lv_at hl 3 rfl) ?_
  refine x_get M hK hw 0 0 rfl rfl ff_X5_44 rfl dX5_pays_49 ?_
  refine lv_aload_n hx hb dX5_pays_52 rfl (lv_at hl 3 rfl) ?_
  refine x_get M hK hw 0 0 rfl rfl ff_X5_10 rfl dX5_pays_53 ?_
  refine lv_iload_n hx hb dX5_pays_56 rfl (lv_at hl 4 rfl) ?_
  refine x_topI (y := mw (1 + j)) mwN_1.symm ?_
  refine lv_iconst (v := (mw 0)) hx hb dX5_pays_57 (by decide) ?_
  refine x_cVI (As := [.ref h0, .int (mw (1 + j)), .int (mw 0)]) (k_X0_find l G Y az h0 lfa3 tka4 bta5 (nI (worA ρ 0 0)) ρ γ (1 + j) 0 (hI) (by omega) (by omega)) cw_X5_253 [2, 1] 2 0 M hK hZ hw hl.1 rfl (by decide) rfl rfl rfl ⟨by decide, by decide⟩ ⟨Nat.zero_le _, Nat.zero_le _⟩ rfl rfl (Nat.le_of_ble_eq_true rfl) dX5_pays_58 (fun r sg h_18 H locs hw => ?_)
  obtain ⟨rfl, lfa19, tka20, bta21, hba22, rfl⟩ := h_18
  have hw : xW G A s.heap [[(xo, .inr (4, [.ref h0, .ref h1, .ref hh, .ref sl, .ref sv, .ref tz, .ref az]))], aucW Y h0 ρ γ, asgW Y az lfa19 tka20 bta21 (nI (worA ρ (1 + j) 0))] H locs := hw
  have q_23 : worA ρ (1 + j) 0 ≤ 16199838 := worA_le hI
  refine lv_iload_n hx hb dX5_pays_61 rfl (lv_at hl 2 rfl) ?_
  refine lv_iload hx hb dX5_pays_62 (lv_at hl 0 rfl) ?_
  refine lv_isub hx hb dX5_pays_64 ?_
  refine lv_isub hx hb dX5_pays_65 ?_
  exact hret _ _ _ ((nI (worA ρ (1 + j) 0)) - ((nI (worA ρ 0 0)) - (nI (wOf ρ j (choA ρ 0 0 j))))) _ _ dX5_pays_66 hw rfl rfl ⟨rfl, _, _, _, _, rfl⟩
set_option maxHeartbeats 4000000 in
set_option maxRecDepth 20000 in
theorem t_X5_pays (l : Launch) (hfl : l.stackTraces = false) (G : va_G) (Y : Nat → Nat) (xo h0 h1 hh sl sv tz az : Nat) (b : Int32) (ρ : Nat → Nat) (γ : Nat → Nat → Nat) (hI : Inv ρ) (hk : (!inZ b.toInt 0 ((ρ 4 : Int) - 1)) = true) : CtT l yX5_pays cX5_pays 5 (some .int) 7 103 [.ref xo, .int b] [[(xo, .inr (4, [.ref h0, .ref h1, .ref hh, .ref sl, .ref sv, .ref tz, .ref az]))], aucW Y h0 ρ γ] eIOB G Y := by
  refine x_ofT (by decide) (Nat.le_of_ble_eq_true rfl) (fun p e s m args below meth c A ls Q M hK hZ hw hl htab hlk hQ => ?_)
  obtain ⟨hx, hb, -⟩ := id M
  have hl : lv_has ls 5 [(0, .ref xo), (1, .int b)] := hl
  refine lv_aload_n hx hb dX5_pays_0 rfl (lv_at hl 0 rfl) ?_
  refine lv_iload_n hx hb dX5_pays_1 rfl (lv_at hl 1 rfl) ?_
  exact x_cVT (As := [.int b]) (t_X5_needBidder l hfl G Y xo h0 h1 hh sl sv tz az b ρ γ (hI) (by omega)) cw_X5_133 [0, 1] 0 0 M hK hZ hw hl.1 rfl (by decide) rfl rfl rfl ⟨by decide, by decide⟩ ⟨by decide, by decide⟩ rfl rfl (Nat.le_of_ble_eq_true rfl) dX5_pays_2 htab hlk hQ
set_option maxHeartbeats 4000000 in
set_option maxRecDepth 20000 in
theorem k_X5_oneMore (l : Launch) (G : va_G) (Y : Nat → Nat) (xo h0 h1 hh sl sv tz az : Nat) (k : Nat) (lf : Nat → Nat) (tk bt : Nat → Int32) (bw : Int32) (ρ : Nat → Nat) (γ : Nat → Nat → Nat) (hI : Inv ρ) (hk : k < 3) : CtI l yX5_oneMore cX5_oneMore 3 .int 16 437 [.ref xo, .int (nI k)] [[(xo, .inr (4, [.ref h0, .ref h1, .ref hh, .ref sl, .ref sv, .ref tz, .ref az]))], aucW Y h0 ρ γ, asgW Y az lf tk bt bw] (fun r sg => r = nI (worA ρ 0 (1 + k)) - nI (worA ρ 0 0) ∧ ∃ (lf' : Nat → Nat) (tk' : Nat → Int32) (bt' : Nat → Int32) (bw' : Int32), sg = [[(xo, .inr (4, [.ref h0, .ref h1, .ref hh, .ref sl, .ref sv, .ref tz, .ref az]))], aucW Y h0 ρ γ, asgW Y az lf' tk' bt' bw']) G Y := by
  refine x_ofI (by decide) (Nat.le_of_ble_eq_true rfl) (fun p e s m args below meth c A ls Q M hK hZ hw hl hret => ?_)
  obtain ⟨hx, hb, -⟩ := id M
  have hl : lv_has ls 3 [(0, .ref xo), (1, .int (nI k))] := hl
  have := hI.n6
  have := hI.over
  have := hI.keep
  have := hI.stepp
  refine lv_aload_n hx hb dX5_oneMore_0 rfl (lv_at hl 0 rfl) ?_
  refine lv_iload_n hx hb dX5_oneMore_1 rfl (lv_at hl 1 rfl) ?_
  refine x_cVV (As := [.int (nI k)]) (k_X5_needKind l G Y xo h0 h1 hh sl sv tz az k (by omega)) cw_X5_113 [0] 0 0 M hK hZ hw hl.1 rfl (by decide) rfl rfl rfl ⟨by decide, by decide⟩ ⟨Nat.zero_le _, Nat.zero_le _⟩ rfl rfl (Nat.le_of_ble_eq_true rfl) dX5_oneMore_2 (fun sg h_1 H locs hw => ?_)
  obtain rfl := h_1
  have hw : xW G A s.heap [[(xo, .inr (4, [.ref h0, .ref h1, .ref hh, .ref sl, .ref sv, .ref tz, .ref az]))], aucW Y h0 ρ γ, asgW Y az lf tk bt bw] H locs := hw
  refine lv_aload_n hx hb dX5_oneMore_5 rfl (lv_at hl 0 rfl) ?_
  refine x_get M hK hw 0 0 rfl rfl ff_X5_44 rfl dX5_oneMore_6 ?_
  refine lv_aload_n hx hb dX5_oneMore_9 rfl (lv_at hl 0 rfl) ?_
  refine x_get M hK hw 0 0 rfl rfl ff_X5_10 rfl dX5_oneMore_10 ?_
  refine lv_iconst (v := (mw 0)) hx hb dX5_oneMore_13 (by decide) ?_
  refine lv_iconst (v := (mw 0)) hx hb dX5_oneMore_14 (by decide) ?_
  refine x_cVI (As := [.ref h0, .int (mw 0), .int (mw 0)]) (k_X0_find l G Y az h0 lf tk bt bw ρ γ 0 0 (hI) (by omega) (by omega)) cw_X5_253 [2, 1] 2 0 M hK hZ hw hl.1 rfl (by decide) rfl rfl rfl ⟨by decide, by decide⟩ ⟨Nat.zero_le _, Nat.zero_le _⟩ rfl rfl (Nat.le_of_ble_eq_true rfl) dX5_oneMore_15 (fun r sg h_2 H locs hw => ?_)
  obtain ⟨rfl, lfa3, tka4, bta5, hba6, rfl⟩ := h_2
  have hw : xW G A s.heap [[(xo, .inr (4, [.ref h0, .ref h1, .ref hh, .ref sl, .ref sv, .ref tz, .ref az]))], aucW Y h0 ρ γ, asgW Y az lfa3 tka4 bta5 (nI (worA ρ 0 0))] H locs := hw
  have q_7 : worA ρ 0 0 ≤ 16199838 := worA_le hI
  refine lv_istore_n (lv' := [(2, .int (nI (worA ρ 0 0))), (0, .ref xo), (1, .int (nI k))]) hx hb dX5_oneMore_18 rfl hl (by decide) rfl (fun ls hl => ?_)
  refine lv_aload_n hx hb dX5_oneMore_19 rfl (lv_at hl 1 rfl) ?_
  refine x_get M hK hw 0 0 rfl rfl ff_X5_44 rfl dX5_oneMore_20 ?_
  refine lv_aload_n hx hb dX5_oneMore_23 rfl (lv_at hl 1 rfl) ?_
  refine x_get M hK hw 0 0 rfl rfl ff_X5_10 rfl dX5_oneMore_24 ?_
  refine lv_iconst (v := (mw 0)) hx hb dX5_oneMore_27 (by decide) ?_
  refine lv_iload_n hx hb dX5_oneMore_28 rfl (lv_at hl 2 rfl) ?_
  refine x_topI (y := mw (1 + k)) mwN_1.symm ?_
  refine x_cVI (As := [.ref h0, .int (mw 0), .int (mw (1 + k))]) (k_X0_find l G Y az h0 lfa3 tka4 bta5 (nI (worA ρ 0 0)) ρ γ 0 (1 + k) (hI) (by omega) (by omega)) cw_X5_253 [2, 1] 2 0 M hK hZ hw hl.1 rfl (by decide) rfl rfl rfl ⟨by decide, by decide⟩ ⟨Nat.zero_le _, Nat.zero_le _⟩ rfl rfl (Nat.le_of_ble_eq_true rfl) dX5_oneMore_29 (fun r sg h_8 H locs hw => ?_)
  obtain ⟨rfl, lfa9, tka10, bta11, hba12, rfl⟩ := h_8
  have hw : xW G A s.heap [[(xo, .inr (4, [.ref h0, .ref h1, .ref hh, .ref sl, .ref sv, .ref tz, .ref az]))], aucW Y h0 ρ γ, asgW Y az lfa9 tka10 bta11 (nI (worA ρ 0 (1 + k)))] H locs := hw
  have q_13 : worA ρ 0 (1 + k) ≤ 16199838 := worA_le hI
  refine lv_iload_n hx hb dX5_oneMore_32 rfl (lv_at hl 0 rfl) ?_
  refine lv_isub hx hb dX5_oneMore_33 ?_
  exact hret _ _ _ ((nI (worA ρ 0 (1 + k))) - (nI (worA ρ 0 0))) _ _ dX5_oneMore_34 hw rfl rfl ⟨rfl, _, _, _, _, rfl⟩
set_option maxHeartbeats 4000000 in
set_option maxRecDepth 20000 in
theorem t_X5_oneMore (l : Launch) (hfl : l.stackTraces = false) (G : va_G) (Y : Nat → Nat) (xo h0 h1 hh sl sv tz az : Nat) (k : Int32) (hk : (!inZ k.toInt 0 2) = true) : CtT l yX5_oneMore cX5_oneMore 3 (some .int) 7 103 [.ref xo, .int k] [[(xo, .inr (4, [.ref h0, .ref h1, .ref hh, .ref sl, .ref sv, .ref tz, .ref az]))]] eIOB G Y := by
  refine x_ofT (by decide) (Nat.le_of_ble_eq_true rfl) (fun p e s m args below meth c A ls Q M hK hZ hw hl htab hlk hQ => ?_)
  obtain ⟨hx, hb, -⟩ := id M
  have hl : lv_has ls 3 [(0, .ref xo), (1, .int k)] := hl
  refine lv_aload_n hx hb dX5_oneMore_0 rfl (lv_at hl 0 rfl) ?_
  refine lv_iload_n hx hb dX5_oneMore_1 rfl (lv_at hl 1 rfl) ?_
  exact x_cVT (As := [.int k]) (t_X5_needKind l hfl G Y xo h0 h1 hh sl sv tz az k (by omega)) cw_X5_113 [0] 0 0 M hK hZ hw hl.1 rfl (by decide) rfl rfl rfl ⟨by decide, by decide⟩ ⟨by decide, by decide⟩ rfl rfl (Nat.le_of_ble_eq_true rfl) dX5_oneMore_2 htab hlk hQ
def lmS (ρ : Nat → Nat) : Nat → Nat × Nat
  | 0 => (0, 0)
  | b + 1 => if (lmS ρ b).2 ≤ worA ρ (1 + b) 0 then (1 + b, 1 + worA ρ (1 + b) 0) else lmS ρ b
theorem lmS_le {ρ : Nat → Nat} (h : Inv ρ) : ∀ {b : Nat}, (lmS ρ b).1 ≤ b ∧ (lmS ρ b).2 ≤ 16199839
  | 0 => ⟨Nat.le_refl _, Nat.zero_le _⟩
  | b + 1 => by
    have h1 := lmS_le h (b := b)
    have h2 := worA_le (w := 1 + b) (m := 0) h
    unfold lmS; split
    · exact ⟨by show 1 + b ≤ b + 1; omega, by show 1 + worA ρ (1 + b) 0 ≤ _; omega⟩
    · exact ⟨by omega, h1.2⟩
theorem lmS_1 {ρ : Nat → Nat} {b : Nat} : lmS ρ (1 + b) = if (lmS ρ b).2 ≤ worA ρ (1 + b) 0 then (1 + b, 1 + worA ρ (1 + b) 0) else lmS ρ b := (congrArg (lmS ρ) (Nat.add_comm 1 b)).trans rfl
set_option maxHeartbeats 4000000 in
set_option maxRecDepth 20000 in
theorem k_X5_leastMissed (l : Launch) (G : va_G) (Y : Nat → Nat) (xo h0 h1 hh sl sv tz az : Nat) (lf : Nat → Nat) (tk bt : Nat → Int32) (bw : Int32) (ρ : Nat → Nat) (γ : Nat → Nat → Nat) (hI : Inv ρ) : CtI l yX5_leastMissed cX5_leastMissed 5 .int 16 437 [.ref xo] [[(xo, .inr (4, [.ref h0, .ref h1, .ref hh, .ref sl, .ref sv, .ref tz, .ref az]))], aucW Y h0 ρ γ, asgW Y az lf tk bt bw] (fun r sg => r = mw (lmS ρ (ρ 4)).1 ∧ ∃ (lf' : Nat → Nat) (tk' : Nat → Int32) (bt' : Nat → Int32) (bw' : Int32), sg = [[(xo, .inr (4, [.ref h0, .ref h1, .ref hh, .ref sl, .ref sv, .ref tz, .ref az]))], aucW Y h0 ρ γ, asgW Y az lf' tk' bt' bw']) G Y := by
  refine x_ofI (by decide) (Nat.le_of_ble_eq_true rfl) (fun p e s m args below meth c A ls Q M hK hZ hw hl hret => ?_)
  obtain ⟨hx, hb, -⟩ := id M
  have hl : lv_has ls 5 [(0, .ref xo)] := hl
  have := hI.n6
  have := hI.over
  have := hI.keep
  have := hI.stepp
  refine lv_iconst (v := (mw 0)) hx hb dX5_leastMissed_0 (by decide) ?_
  refine lv_istore_n (lv' := [(1, .int (mw 0)), (0, .ref xo)]) hx hb dX5_leastMissed_1 rfl hl (by decide) rfl (fun ls hl => ?_)
  refine lv_iconst (v := (mw 0)) hx hb dX5_leastMissed_2 (by decide) ?_
  refine lv_istore_n (lv' := [(2, .int (mw 0)), (1, .int (mw 0)), (0, .ref xo)]) hx hb dX5_leastMissed_3 rfl hl (by decide) rfl (fun ls hl => ?_)
  refine lv_iconst (v := (nI 0)) hx hb dX5_leastMissed_4 (by decide) ?_
  refine lv_istore_n (lv' := [(3, .int (nI 0)), (2, .int (mw 0)), (1, .int (mw 0)), (0, .ref xo)]) hx hb dX5_leastMissed_5 rfl hl (by decide) rfl (fun ls hl => ?_)
  have L6 : ∀ (fu : Nat) (b : Nat) (lf2 : Nat → Nat) (tk2 : Nat → Int32) (bt2 : Nat → Int32) (bw2 : Int32), (ρ 4 - b < fu) → (b ≤ ρ 4) → ∀ (H : Heap) (locs : List Loc), xW G A s.heap [[(xo, .inr (4, [.ref h0, .ref h1, .ref hh, .ref sl, .ref sv, .ref tz, .ref az]))], aucW Y h0 ρ γ, asgW Y az lf2 tk2 bt2 bw2] H locs → ∀ (ls : Array Slot), lv_has ls 5 [(0, .ref xo), (1, .int (mw (lmS ρ b).1)), (2, .int (mw (lmS ρ b).2)), (3, .int (nI b))] → W p l e (xRm 16 437) s m args below meth c H locs 0 0 Q (F0 m 6 ls []) := by
    intro fu
    induction fu with
    | zero => intro b lf2 tk2 bt2 bw2 hm; exact absurd hm (Nat.not_lt_zero _)
    | succ fu ih6 =>
      intro b lf2 tk2 bt2 bw2 hm hb1 H locs hw ls hl
      have hlm := lmS_le (b := b) hI
      refine lv_iload_n hx hb dX5_leastMissed_6 rfl (lv_at hl 3 rfl) ?_
      refine lv_aload_n hx hb dX5_leastMissed_7 rfl (lv_at hl 0 rfl) ?_
      refine x_get M hK hw 0 0 rfl rfl ff_X5_10 rfl dX5_leastMissed_8 ?_
      refine x_get M hK hw 1 0 rfl rfl ff_X5_91 rfl dX5_leastMissed_11 ?_
      refine x_cge M (tgt := 49) (by omega) (by omega) dX5_leastMissed_14 (by decide) (fun c_1 => ?_) (fun c_1 => ?_)
      · refine lv_iload_n hx hb dX5_leastMissed_49 rfl (lv_at hl 1 rfl) ?_
        exact hret _ _ _ (mw (lmS ρ b).1) _ _ dX5_leastMissed_50 hw rfl rfl ⟨by rw [show b = ρ 4 by omega], _, _, _, _, rfl⟩
      refine lv_aload_n hx hb dX5_leastMissed_17 rfl (lv_at hl 0 rfl) ?_
      refine x_get M hK hw 0 0 rfl rfl ff_X5_44 rfl dX5_leastMissed_18 ?_
      refine lv_aload_n hx hb dX5_leastMissed_21 rfl (lv_at hl 0 rfl) ?_
      refine x_get M hK hw 0 0 rfl rfl ff_X5_10 rfl dX5_leastMissed_22 ?_
      refine lv_iload_n hx hb dX5_leastMissed_25 rfl (lv_at hl 3 rfl) ?_
      refine x_topI (y := mw (1 + b)) mwN_1.symm ?_
      refine lv_iconst (v := (mw 0)) hx hb dX5_leastMissed_26 (by decide) ?_
      refine x_cVI (As := [.ref h0, .int (mw (1 + b)), .int (mw 0)]) (k_X0_find l G Y az h0 lf2 tk2 bt2 bw2 ρ γ (1 + b) 0 (hI) (by omega) (by omega)) cw_X5_253 [2, 1] 2 0 M hK hZ hw hl.1 rfl (by decide) rfl rfl rfl ⟨by decide, by decide⟩ ⟨Nat.zero_le _, Nat.zero_le _⟩ rfl rfl (Nat.le_of_ble_eq_true rfl) dX5_leastMissed_27 (fun r sg h_2 H locs hw => ?_)
      obtain ⟨rfl, lfa3, tka4, bta5, hba6, rfl⟩ := h_2
      have hw : xW G A s.heap [[(xo, .inr (4, [.ref h0, .ref h1, .ref hh, .ref sl, .ref sv, .ref tz, .ref az]))], aucW Y h0 ρ γ, asgW Y az lfa3 tka4 bta5 (nI (worA ρ (1 + b) 0))] H locs := hw
      have q_7 : worA ρ (1 + b) 0 ≤ 16199838 := worA_le hI
      refine lv_istore (lv' := [(4, .int (nI (worA ρ (1 + b) 0))), (0, .ref xo), (1, .int (mw (lmS ρ b).1)), (2, .int (mw (lmS ρ b).2)), (3, .int (nI b))]) hx hb dX5_leastMissed_30 hl (by decide) rfl (fun ls hl => ?_)
      refine lv_iload hx hb dX5_leastMissed_32 (lv_at hl 0 rfl) ?_
      refine lv_iload_n hx hb dX5_leastMissed_34 rfl (lv_at hl 3 rfl) ?_
      refine lv_icmp_le (tgt := 43) hx hb dX5_leastMissed_35 (by decide) (fun c_8 => ?_) (fun c_8 => ?_)
      · have hq := (nI_le_mw (by omega) (by omega)).mp c_8
        have hL : lmS ρ (1 + b) = lmS ρ b := by rw [lmS_1, if_neg (by omega)]
        have hl : lv_has ls 5 [(4, .int (nI (worA ρ (1 + b) 0))), (0, .ref xo), (1, .int (mw (lmS ρ (1 + b)).1)), (2, .int (mw (lmS ρ (1 + b)).2)), (3, .int (nI b))] := by rw [hL]; exact hl
        refine lv_iinc (v := (nI (1 + b))) (lv' := [(3, .int (nI (1 + b))), (4, .int (nI (worA ρ (1 + b) 0))), (0, .ref xo), (1, .int (mw (lmS ρ (1 + b)).1)), (2, .int (mw (lmS ρ (1 + b)).2))]) hx hb dX5_leastMissed_43 hl (k := 4) rfl (by rw [show (1 : Int) = ((1 : Nat) : Int) from rfl, nI_inc]; exact congrArg nI (by omega)) (by decide) rfl (fun ls hl => ?_)
        refine lv_goto (tgt := 6) hx hb dX5_leastMissed_46 (by decide) ?_
        exact ih6 (1 + b) lfa3 tka4 bta5 (nI (worA ρ (1 + b) 0)) (by omega) (by omega) _ _ hw _ (lv_sub hl [2, 3, 4, 0] rfl)
      refine lv_iload hx hb dX5_leastMissed_38 (lv_at hl 0 rfl) ?_
      refine x_topI (y := mw (1 + worA ρ (1 + b) 0)) mwN_1.symm ?_
      refine lv_istore_n (lv' := [(2, .int (mw (1 + worA ρ (1 + b) 0))), (4, .int (nI (worA ρ (1 + b) 0))), (0, .ref xo), (1, .int (mw (lmS ρ b).1)), (3, .int (nI b))]) hx hb dX5_leastMissed_40 rfl hl (by decide) rfl (fun ls hl => ?_)
      refine lv_iload_n hx hb dX5_leastMissed_41 rfl (lv_at hl 4 rfl) ?_
      refine x_topI (y := mw (1 + b)) mwN_1.symm ?_
      refine lv_istore_n (lv' := [(1, .int (mw (1 + b))), (2, .int (mw (1 + worA ρ (1 + b) 0))), (4, .int (nI (worA ρ (1 + b) 0))), (0, .ref xo), (3, .int (nI b))]) hx hb dX5_leastMissed_42 rfl hl (by decide) rfl (fun ls hl => ?_)
      have hq := mt (nI_le_mw (by omega) (by omega)).mpr c_8
      have hL : lmS ρ (1 + b) = (1 + b, 1 + worA ρ (1 + b) 0) := by rw [lmS_1, if_pos (by omega)]
      have hl : lv_has ls 5 [(1, .int (mw (lmS ρ (1 + b)).1)), (2, .int (mw (lmS ρ (1 + b)).2)), (4, .int (nI (worA ρ (1 + b) 0))), (0, .ref xo), (3, .int (nI b))] := by rw [hL]; show lv_has ls 5 [(1, .int (mw (1 + b))), (2, .int (mw (1 + worA ρ (1 + b) 0))), (4, .int (nI (worA ρ (1 + b) 0))), (0, .ref xo), (3, .int (nI b))]; exact hl
      refine lv_iinc (v := (nI (1 + b))) (lv' := [(3, .int (nI (1 + b))), (1, .int (mw (lmS ρ (1 + b)).1)), (2, .int (mw (lmS ρ (1 + b)).2)), (4, .int (nI (worA ρ (1 + b) 0))), (0, .ref xo)]) hx hb dX5_leastMissed_43 hl (k := 4) rfl (by rw [show (1 : Int) = ((1 : Nat) : Int) from rfl, nI_inc]; exact congrArg nI (by omega)) (by decide) rfl (fun ls hl => ?_)
      refine lv_goto (tgt := 6) hx hb dX5_leastMissed_46 (by decide) ?_
      exact ih6 (1 + b) lfa3 tka4 bta5 (nI (worA ρ (1 + b) 0)) (by omega) (by omega) _ _ hw _ (lv_sub hl [4, 1, 2, 0] rfl)
  exact L6 (ρ 4 - 0 + 1) 0 lf tk bt bw (Nat.lt_succ_self _) (by omega) _ _ hw _ (lv_sub hl [3, 2, 1, 0] rfl)
set_option maxHeartbeats 4000000 in
set_option maxRecDepth 20000 in
theorem k_X5_wouldAsk (l : Launch) (G : va_G) (Y : Nat → Nat) (xo h0 h1 hh sl sv tz az : Nat) (j k : Nat) (ρ : Nat → Nat) (γ : Nat → Nat → Nat) (κ : Nat → Nat) (γ1 : Nat → Nat → Nat) (hI : Inv ρ) (hj : j < ρ 4) (hk : k < 3) : CtI l yX5_wouldAsk cX5_wouldAsk 3 .int 4 95 [.ref xo, .int (nI j), .int (nI k)] [[(xo, .inr (4, [.ref h0, .ref h1, .ref hh, .ref sl, .ref sv, .ref tz, .ref az]))], aucW Y h0 ρ γ, aucW Y h1 κ γ1] (fun r sg => r = nI ((mBid ρ j) (19 + 21 * j + k)) ∧ ∃ (γ' : Nat → Nat → Nat), sg = [[(xo, .inr (4, [.ref h0, .ref h1, .ref hh, .ref sl, .ref sv, .ref tz, .ref az]))], aucW Y h0 ρ γ, aucW Y h1 (mBid ρ j) γ']) G Y := by
  refine x_ofI (by decide) (Nat.le_of_ble_eq_true rfl) (fun p e s m args below meth c A ls Q M hK hZ hw hl hret => ?_)
  obtain ⟨hx, hb, -⟩ := id M
  have hl : lv_has ls 3 [(0, .ref xo), (1, .int (nI j)), (2, .int (nI k))] := hl
  have := hI.n6
  have := hI.over
  have := hI.keep
  have := hI.stepp
  refine lv_aload_n hx hb dX5_wouldAsk_0 rfl (lv_at hl 0 rfl) ?_
  refine lv_iload_n hx hb dX5_wouldAsk_1 rfl (lv_at hl 1 rfl) ?_
  refine x_cVV (As := [.int (nI j)]) (k_X5_needBidder l G Y xo h0 h1 hh sl sv tz az j ρ γ (hI) (by omega)) cw_X5_133 [0, 1] 0 0 M hK hZ hw hl.1 rfl (by decide) rfl rfl rfl ⟨by decide, by decide⟩ ⟨Nat.zero_le _, Nat.zero_le _⟩ rfl rfl (Nat.le_of_ble_eq_true rfl) dX5_wouldAsk_2 (fun sg h_1 H locs hw => ?_)
  obtain rfl := h_1
  have hw : xW G A s.heap [[(xo, .inr (4, [.ref h0, .ref h1, .ref hh, .ref sl, .ref sv, .ref tz, .ref az]))], aucW Y h0 ρ γ, aucW Y h1 κ γ1] H locs := hw
  refine lv_aload_n hx hb dX5_wouldAsk_5 rfl (lv_at hl 0 rfl) ?_
  refine lv_iload_n hx hb dX5_wouldAsk_6 rfl (lv_at hl 2 rfl) ?_
  refine x_cVV (As := [.int (nI k)]) (k_X5_needKind l G Y xo h0 h1 hh sl sv tz az k (by omega)) cw_X5_113 [0] 0 0 M hK hZ hw hl.1 rfl (by decide) rfl rfl rfl ⟨by decide, by decide⟩ ⟨Nat.zero_le _, Nat.zero_le _⟩ rfl rfl (Nat.le_of_ble_eq_true rfl) dX5_wouldAsk_7 (fun sg h_2 H locs hw => ?_)
  obtain rfl := h_2
  have hw : xW G A s.heap [[(xo, .inr (4, [.ref h0, .ref h1, .ref hh, .ref sl, .ref sv, .ref tz, .ref az]))], aucW Y h0 ρ γ, aucW Y h1 κ γ1] H locs := hw
  refine lv_aload_n hx hb dX5_wouldAsk_10 rfl (lv_at hl 0 rfl) ?_
  refine x_get M hK hw 0 0 rfl rfl ff_X5_16 rfl dX5_wouldAsk_11 ?_
  refine lv_aload_n hx hb dX5_wouldAsk_14 rfl (lv_at hl 0 rfl) ?_
  refine x_get M hK hw 0 0 rfl rfl ff_X5_10 rfl dX5_wouldAsk_15 ?_
  refine x_cVV (As := [.ref h0]) (k_X1_become l G Y h1 h0 κ γ1 ρ γ (hI)) cw_X5_260 [2, 1] 2 0 M hK hZ hw hl.1 rfl (by decide) rfl rfl rfl ⟨by decide, by decide⟩ ⟨Nat.zero_le _, Nat.zero_le _⟩ rfl rfl (Nat.le_of_ble_eq_true rfl) dX5_wouldAsk_18 (fun sg h_3 H locs hw => ?_)
  obtain rfl := h_3
  have hw : xW G A s.heap [[(xo, .inr (4, [.ref h0, .ref h1, .ref hh, .ref sl, .ref sv, .ref tz, .ref az]))], aucW Y h0 ρ γ, aucW Y h1 ρ γ] H locs := hw
  refine lv_aload_n hx hb dX5_wouldAsk_21 rfl (lv_at hl 0 rfl) ?_
  refine x_get M hK hw 0 0 rfl rfl ff_X5_16 rfl dX5_wouldAsk_22 ?_
  refine lv_iload_n hx hb dX5_wouldAsk_25 rfl (lv_at hl 1 rfl) ?_
  refine x_cVV (As := [.int (nI j)]) (k_X1_bidByValues l G Y h1 j ρ γ (hI) (by omega)) cw_X5_213 [2] 2 0 M hK hZ hw hl.1 rfl (by decide) rfl rfl rfl ⟨by decide, by decide⟩ ⟨Nat.zero_le _, Nat.zero_le _⟩ rfl rfl (Nat.le_of_ble_eq_true rfl) dX5_wouldAsk_26 (fun sg h_4 H locs hw => ?_)
  obtain ⟨γa5, rfl⟩ := h_4
  have hw : xW G A s.heap [[(xo, .inr (4, [.ref h0, .ref h1, .ref hh, .ref sl, .ref sv, .ref tz, .ref az]))], aucW Y h0 ρ γ, aucW Y h1 (mBid ρ j) γa5] H locs := hw
  have hI2 := Inv_mBid hI hj
  have e4 : (mBid ρ j) 4 = ρ 4 := bid_4
  refine lv_aload_n hx hb dX5_wouldAsk_29 rfl (lv_at hl 0 rfl) ?_
  refine x_get M hK hw 0 0 rfl rfl ff_X5_16 rfl dX5_wouldAsk_30 ?_
  refine x_get M hK hw 2 0 rfl rfl ff_X5_153 rfl dX5_wouldAsk_33 ?_
  refine lv_iload_n hx hb dX5_wouldAsk_36 rfl (lv_at hl 1 rfl) ?_
  refine lv_iload_n hx hb dX5_wouldAsk_37 rfl (lv_at hl 2 rfl) ?_
  refine x_cSI (As := [.int (nI j), .int (nI k)]) (k_X5_cell l G Y j k) cw_X5_156 [] M hK hZ hw hl.1 rfl (by decide) ⟨by decide, by decide⟩ ⟨Nat.zero_le _, Nat.zero_le _⟩ rfl rfl (Nat.le_of_ble_eq_true rfl) dX5_wouldAsk_38 (fun r sg h_6 H locs hw => ?_)
  obtain ⟨rfl, rfl⟩ := h_6
  have hw : xW G A s.heap [[(xo, .inr (4, [.ref h0, .ref h1, .ref hh, .ref sl, .ref sv, .ref tz, .ref az]))], aucW Y h0 ρ γ, aucW Y h1 (mBid ρ j) γa5] H locs := hw
  refine x_iald M hK hw 2 8 rfl rfl (by omega) (by decide) dX5_wouldAsk_41 ?_
  refine x_topN (n := (mBid ρ j) (19 + 21 * j + k)) (congrArg nI (dem_at (j := j) (k := k) (by omega) (by omega) (by omega) (by omega))) ?_
  have q_7 : (mBid ρ j) (19 + 21 * j + k) ≤ 9 := hI2.dem (j := j) (by omega) (k := k) (by omega) (by omega)
  exact hret _ _ _ (nI ((mBid ρ j) (19 + 21 * j + k))) _ _ dX5_wouldAsk_42 hw rfl rfl ⟨rfl, _, rfl⟩
set_option maxHeartbeats 4000000 in
set_option maxRecDepth 20000 in
theorem t_X5_wouldAsk_1 (l : Launch) (hfl : l.stackTraces = false) (G : va_G) (Y : Nat → Nat) (xo h0 h1 hh sl sv tz az : Nat) (b k : Int32) (ρ : Nat → Nat) (γ : Nat → Nat → Nat) (hI : Inv ρ) (hk : (!inZ b.toInt 0 ((ρ 4 : Int) - 1)) = true) : CtT l yX5_wouldAsk cX5_wouldAsk 3 (some .int) 7 103 [.ref xo, .int b, .int k] [[(xo, .inr (4, [.ref h0, .ref h1, .ref hh, .ref sl, .ref sv, .ref tz, .ref az]))], aucW Y h0 ρ γ] eIOB G Y := by
  refine x_ofT (by decide) (Nat.le_of_ble_eq_true rfl) (fun p e s m args below meth c A ls Q M hK hZ hw hl htab hlk hQ => ?_)
  obtain ⟨hx, hb, -⟩ := id M
  have hl : lv_has ls 3 [(0, .ref xo), (1, .int b), (2, .int k)] := hl
  refine lv_aload_n hx hb dX5_wouldAsk_0 rfl (lv_at hl 0 rfl) ?_
  refine lv_iload_n hx hb dX5_wouldAsk_1 rfl (lv_at hl 1 rfl) ?_
  exact x_cVT (As := [.int b]) (t_X5_needBidder l hfl G Y xo h0 h1 hh sl sv tz az b ρ γ (hI) (by omega)) cw_X5_133 [0, 1] 0 0 M hK hZ hw hl.1 rfl (by decide) rfl rfl rfl ⟨by decide, by decide⟩ ⟨by decide, by decide⟩ rfl rfl (Nat.le_of_ble_eq_true rfl) dX5_wouldAsk_2 htab hlk hQ
set_option maxHeartbeats 4000000 in
set_option maxRecDepth 20000 in
theorem t_X5_wouldAsk_2 (l : Launch) (hfl : l.stackTraces = false) (G : va_G) (Y : Nat → Nat) (xo h0 h1 hh sl sv tz az : Nat) (j : Nat) (k : Int32) (ρ : Nat → Nat) (γ : Nat → Nat → Nat) (hI : Inv ρ) (hj : j < ρ 4) (hk : (!inZ k.toInt 0 2) = true) : CtT l yX5_wouldAsk cX5_wouldAsk 3 (some .int) 7 103 [.ref xo, .int (nI j), .int k] [[(xo, .inr (4, [.ref h0, .ref h1, .ref hh, .ref sl, .ref sv, .ref tz, .ref az]))], aucW Y h0 ρ γ] eIOB G Y := by
  refine x_ofT (by decide) (Nat.le_of_ble_eq_true rfl) (fun p e s m args below meth c A ls Q M hK hZ hw hl htab hlk hQ => ?_)
  obtain ⟨hx, hb, -⟩ := id M
  have hl : lv_has ls 3 [(0, .ref xo), (1, .int (nI j)), (2, .int k)] := hl
  have := hI.n6
  refine lv_aload_n hx hb dX5_wouldAsk_0 rfl (lv_at hl 0 rfl) ?_
  refine lv_iload_n hx hb dX5_wouldAsk_1 rfl (lv_at hl 1 rfl) ?_
  refine x_cVV (As := [.int (nI j)]) (k_X5_needBidder l G Y xo h0 h1 hh sl sv tz az j ρ γ (hI) (by omega)) cw_X5_133 [0, 1] 0 0 M hK hZ hw hl.1 rfl (by decide) rfl rfl rfl ⟨by decide, by decide⟩ ⟨Nat.zero_le _, Nat.zero_le _⟩ rfl rfl (Nat.le_of_ble_eq_true rfl) dX5_wouldAsk_2 (fun sg h_1 H locs hw => ?_)
  obtain rfl := h_1
  have hw : xW G A s.heap [[(xo, .inr (4, [.ref h0, .ref h1, .ref hh, .ref sl, .ref sv, .ref tz, .ref az]))], aucW Y h0 ρ γ] H locs := hw
  refine lv_aload_n hx hb dX5_wouldAsk_5 rfl (lv_at hl 0 rfl) ?_
  refine lv_iload_n hx hb dX5_wouldAsk_6 rfl (lv_at hl 2 rfl) ?_
  exact x_cVT (As := [.int k]) (t_X5_needKind l hfl G Y xo h0 h1 hh sl sv tz az k (by omega)) cw_X5_113 [0] 0 0 M hK hZ hw hl.1 rfl (by decide) rfl rfl rfl ⟨by decide, by decide⟩ ⟨by decide, by decide⟩ rfl rfl (Nat.le_of_ble_eq_true rfl) dX5_wouldAsk_7 htab hlk hQ
def rlV (ρ : Nat → Nat) : Int32 := if (endR ρ).1 1 = 0 then mw 0 else nI (endR ρ).2
set_option maxHeartbeats 4000000 in
set_option maxRecDepth 20000 in
theorem k_X5_roundsLeft (l : Launch) (G : va_G) (Y : Nat → Nat) (xo h0 h1 hh sl sv tz az : Nat) (ρ : Nat → Nat) (γ : Nat → Nat → Nat) (κ : Nat → Nat) (γ1 : Nat → Nat → Nat) (hI : Inv ρ) : CtI l yX5_roundsLeft cX5_roundsLeft 2 .int 5 117 [.ref xo] [[(xo, .inr (4, [.ref h0, .ref h1, .ref hh, .ref sl, .ref sv, .ref tz, .ref az]))], aucW Y h0 ρ γ, aucW Y h1 κ γ1] (fun r sg => r = rlV ρ ∧ ∃ (γ' : Nat → Nat → Nat), sg = [[(xo, .inr (4, [.ref h0, .ref h1, .ref hh, .ref sl, .ref sv, .ref tz, .ref az]))], aucW Y h0 ρ γ, aucW Y h1 ((endR ρ).1) γ']) G Y := by
  refine x_ofI (by decide) (Nat.le_of_ble_eq_true rfl) (fun p e s m args below meth c A ls Q M hK hZ hw hl hret => ?_)
  obtain ⟨hx, hb, -⟩ := id M
  have hl : lv_has ls 2 [(0, .ref xo)] := hl
  have hIe : Inv (endR ρ).1 := Inv_runE hI
  have := hIe.over
  have := hI.n6
  have := hI.over
  have := hI.keep
  have := hI.stepp
  refine lv_aload_n hx hb dX5_roundsLeft_0 rfl (lv_at hl 0 rfl) ?_
  refine x_cVI (As := []) (k_X5_runToTheEnd l G Y xo h0 h1 hh sl sv tz az ρ γ κ γ1 (hI)) cw_X5_263 [0, 1, 2] 0 0 M hK hZ hw hl.1 rfl (by decide) rfl rfl rfl ⟨by decide, by decide⟩ ⟨Nat.zero_le _, Nat.zero_le _⟩ rfl rfl (Nat.le_of_ble_eq_true rfl) dX5_roundsLeft_1 (fun r sg h_1 H locs hw => ?_)
  obtain ⟨rfl, γa2, rfl⟩ := h_1
  have hw : xW G A s.heap [[(xo, .inr (4, [.ref h0, .ref h1, .ref hh, .ref sl, .ref sv, .ref tz, .ref az]))], aucW Y h0 ρ γ, aucW Y h1 ((endR ρ).1) γa2] H locs := hw
  have q_3 : (endR ρ).2 ≤ 200 := Nat.le_trans runE_le (by decide)
  refine lv_istore_n (lv' := [(1, .int (nI ((endR ρ).2))), (0, .ref xo)]) hx hb dX5_roundsLeft_4 rfl hl (by decide) rfl (fun ls hl => ?_)
  refine lv_aload_n hx hb dX5_roundsLeft_5 rfl (lv_at hl 1 rfl) ?_
  refine x_get M hK hw 0 0 rfl rfl ff_X5_16 rfl dX5_roundsLeft_6 ?_
  refine x_get M hK hw 2 0 rfl rfl ff_X5_98 rfl dX5_roundsLeft_9 ?_
  refine x_zeq M (tgt := 19) (by omega) dX5_roundsLeft_12 (by decide) (fun c_4 => ?_) (fun c_4 => ?_)
  · refine lv_iconst (v := (mw 0)) hx hb dX5_roundsLeft_19 (by decide) ?_
    exact hret _ _ _ (mw 0) _ _ dX5_roundsLeft_20 hw rfl rfl ⟨by unfold rlV; rw [if_pos (by omega)], _, rfl⟩
  refine lv_iload_n hx hb dX5_roundsLeft_15 rfl (lv_at hl 0 rfl) ?_
  refine lv_goto (tgt := 20) hx hb dX5_roundsLeft_16 (by decide) ?_
  exact hret _ _ _ (nI ((endR ρ).2)) _ _ dX5_roundsLeft_20 hw rfl rfl ⟨by unfold rlV; rw [if_neg (by omega)], _, rfl⟩
set_option maxHeartbeats 4000000 in
set_option maxRecDepth 20000 in
theorem k_X5_endPrice (l : Launch) (G : va_G) (Y : Nat → Nat) (xo h0 h1 hh sl sv tz az : Nat) (k : Nat) (ρ : Nat → Nat) (γ : Nat → Nat → Nat) (κ : Nat → Nat) (γ1 : Nat → Nat → Nat) (hI : Inv ρ) (hk : k < 3) : CtI l yX5_endPrice cX5_endPrice 2 .int 5 117 [.ref xo, .int (nI k)] [[(xo, .inr (4, [.ref h0, .ref h1, .ref hh, .ref sl, .ref sv, .ref tz, .ref az]))], aucW Y h0 ρ γ, aucW Y h1 κ γ1] (fun r sg => r = nI ((endR ρ).1 (11 + k)) ∧ ∃ (γ' : Nat → Nat → Nat), sg = [[(xo, .inr (4, [.ref h0, .ref h1, .ref hh, .ref sl, .ref sv, .ref tz, .ref az]))], aucW Y h0 ρ γ, aucW Y h1 ((endR ρ).1) γ']) G Y := by
  refine x_ofI (by decide) (Nat.le_of_ble_eq_true rfl) (fun p e s m args below meth c A ls Q M hK hZ hw hl hret => ?_)
  obtain ⟨hx, hb, -⟩ := id M
  have hl : lv_has ls 2 [(0, .ref xo), (1, .int (nI k))] := hl
  have := hI.n6
  have := hI.over
  have := hI.keep
  have := hI.stepp
  refine lv_aload_n hx hb dX5_endPrice_0 rfl (lv_at hl 0 rfl) ?_
  refine lv_iload_n hx hb dX5_endPrice_1 rfl (lv_at hl 1 rfl) ?_
  refine x_cVV (As := [.int (nI k)]) (k_X5_needKind l G Y xo h0 h1 hh sl sv tz az k (by omega)) cw_X5_113 [0] 0 0 M hK hZ hw hl.1 rfl (by decide) rfl rfl rfl ⟨by decide, by decide⟩ ⟨Nat.zero_le _, Nat.zero_le _⟩ rfl rfl (Nat.le_of_ble_eq_true rfl) dX5_endPrice_2 (fun sg h_1 H locs hw => ?_)
  obtain rfl := h_1
  have hw : xW G A s.heap [[(xo, .inr (4, [.ref h0, .ref h1, .ref hh, .ref sl, .ref sv, .ref tz, .ref az]))], aucW Y h0 ρ γ, aucW Y h1 κ γ1] H locs := hw
  refine lv_aload_n hx hb dX5_endPrice_5 rfl (lv_at hl 0 rfl) ?_
  refine x_cVI (As := []) (k_X5_runToTheEnd l G Y xo h0 h1 hh sl sv tz az ρ γ κ γ1 (hI)) cw_X5_263 [0, 1, 2] 0 0 M hK hZ hw hl.1 rfl (by decide) rfl rfl rfl ⟨by decide, by decide⟩ ⟨Nat.zero_le _, Nat.zero_le _⟩ rfl rfl (Nat.le_of_ble_eq_true rfl) dX5_endPrice_6 (fun r sg h_2 H locs hw => ?_)
  obtain ⟨rfl, γa3, rfl⟩ := h_2
  have hw : xW G A s.heap [[(xo, .inr (4, [.ref h0, .ref h1, .ref hh, .ref sl, .ref sv, .ref tz, .ref az]))], aucW Y h0 ρ γ, aucW Y h1 ((endR ρ).1) γa3] H locs := hw
  have q_4 : (endR ρ).2 ≤ 200 := Nat.le_trans runE_le (by decide)
  refine lv_pop hx hb dX5_endPrice_9 rfl ?_
  refine lv_aload_n hx hb dX5_endPrice_10 rfl (lv_at hl 0 rfl) ?_
  refine x_get M hK hw 0 0 rfl rfl ff_X5_16 rfl dX5_endPrice_11 ?_
  refine x_get M hK hw 2 0 rfl rfl ff_X5_124 rfl dX5_endPrice_14 ?_
  refine lv_iload_n hx hb dX5_endPrice_17 rfl (lv_at hl 1 rfl) ?_
  refine x_iald M hK hw 2 3 rfl rfl (by omega) (by decide) dX5_endPrice_18 ?_
  refine x_topN (n := ((endR ρ).1) (11 + k)) (congrArg (fun q => nI (((endR ρ).1) q)) (by omega)) ?_
  exact hret _ _ _ (nI (((endR ρ).1) (11 + k))) _ _ dX5_endPrice_19 hw rfl rfl ⟨rfl, _, rfl⟩
set_option maxHeartbeats 4000000 in
set_option maxRecDepth 20000 in
theorem t_X5_endPrice (l : Launch) (hfl : l.stackTraces = false) (G : va_G) (Y : Nat → Nat) (xo h0 h1 hh sl sv tz az : Nat) (k : Int32) (hk : (!inZ k.toInt 0 2) = true) : CtT l yX5_endPrice cX5_endPrice 2 (some .int) 7 103 [.ref xo, .int k] [[(xo, .inr (4, [.ref h0, .ref h1, .ref hh, .ref sl, .ref sv, .ref tz, .ref az]))]] eIOB G Y := by
  refine x_ofT (by decide) (Nat.le_of_ble_eq_true rfl) (fun p e s m args below meth c A ls Q M hK hZ hw hl htab hlk hQ => ?_)
  obtain ⟨hx, hb, -⟩ := id M
  have hl : lv_has ls 2 [(0, .ref xo), (1, .int k)] := hl
  refine lv_aload_n hx hb dX5_endPrice_0 rfl (lv_at hl 0 rfl) ?_
  refine lv_iload_n hx hb dX5_endPrice_1 rfl (lv_at hl 1 rfl) ?_
  exact x_cVT (As := [.int k]) (t_X5_needKind l hfl G Y xo h0 h1 hh sl sv tz az k (by omega)) cw_X5_113 [0] 0 0 M hK hZ hw hl.1 rfl (by decide) rfl rfl rfl ⟨by decide, by decide⟩ ⟨by decide, by decide⟩ rfl rfl (Nat.le_of_ble_eq_true rfl) dX5_endPrice_2 htab hlk hQ
