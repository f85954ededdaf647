set_option maxHeartbeats 4000000 in
set_option maxRecDepth 20000 in
theorem k_X5_join (l : Launch) (G : va_G) (Y : Nat → Nat) (xo h0 h1 hh sl sv tz az : Nat) (hb2 nx ct : Nat) (rr : Nat → Nat → Nat) (gg : Nat → Nat → Nat → Nat) (u v : Nat) (ρ : Nat → Nat) (γ : Nat → Nat → Nat) (hI : Inv ρ) (hnx : nx < 14) (hct : ct ≤ 14) (g0 : u < 2 ^ 31) (g1 : v < 2 ^ 31) (ht : tJoin ρ u v = 0) : CtI l yX5_join cX5_join 3 .int 3 102 [.ref xo, .int (nI u), .int (nI v)] [[(xo, .inr (4, [.ref h0, .ref h1, .ref hh, .ref sl, .ref sv, .ref tz, .ref az]))], aucW Y h0 ρ γ, hisW Y hh hb2 nx ct, ringW Y hb2 rr gg] (fun r sg => r = nI (ρ 4) ∧ ∃ (γ' : Nat → Nat → Nat), sg = [[(xo, .inr (4, [.ref h0, .ref h1, .ref hh, .ref sl, .ref sv, .ref tz, .ref az]))], aucW Y h0 (mJoin ρ u v) γ', hisW Y hh hb2 (nxt nx) (min (ct + 1) 14), ringW Y hb2 (setR rr nx ρ) (setR gg nx γ)]) G Y := by
  refine x_ofI (by decide) (Nat.le_of_ble_eq_true rfl) (fun p e s m args below meth c A ls Q M hK hZ hw hl hret => ?_)
  obtain ⟨hx, hb, -⟩ := id M
  have hl : lv_has ls 3 [(0, .ref xo), (1, .int (nI u)), (2, .int (nI v))] := hl
  have := hI.n6
  have := hI.over
  have := hI.keep
  have := hI.stepp
  have hok := okN_join ht
  refine lv_aload_n hx hb dX5_join_0 rfl (lv_at hl 0 rfl) ?_
  refine x_get M hK hw 0 0 rfl rfl ff_X5_10 rfl dX5_join_1 ?_
  refine lv_iload_n hx hb dX5_join_4 rfl (lv_at hl 1 rfl) ?_
  refine lv_iload_n hx hb dX5_join_5 rfl (lv_at hl 2 rfl) ?_
  refine x_cVI (As := [.int (nI u), .int (nI v)]) (k_X1_whyNotJoin l G Y h0 ρ γ (nI u) (nI v) (hI)) cw_X5_194 [1] 1 0 M hK hZ hw hl.1 rfl (by decide) rfl rfl rfl ⟨by decide, by decide⟩ ⟨Nat.zero_le _, Nat.zero_le _⟩ rfl rfl (Nat.le_of_ble_eq_true rfl) dX5_join_6 (fun r sg h_1 H locs hw => ?_)
  obtain ⟨rfl, rfl⟩ := h_1
  have hw : xW G A s.heap [[(xo, .inr (4, [.ref h0, .ref h1, .ref hh, .ref sl, .ref sv, .ref tz, .ref az]))], aucW Y h0 ρ γ, hisW Y hh hb2 nx ct, ringW Y hb2 rr gg] H locs := hw
  refine x_topN (n := 0) (congrArg nI (by have h9 := ht; unfold tJoin at h9; rw [nI_toInt g0, nI_toInt g1]; exact h9)) ?_
  refine x_cSV (As := [.int (nI 0)]) (k_X5_refuse l G Y ) cw_X5_180 [] M hK hZ hw hl.1 rfl (by decide) ⟨by decide, by decide⟩ ⟨Nat.zero_le _, Nat.zero_le _⟩ rfl rfl (Nat.le_of_ble_eq_true rfl) dX5_join_9 (fun sg h_2 H locs hw => ?_)
  obtain rfl := h_2
  have hw : xW G A s.heap [[(xo, .inr (4, [.ref h0, .ref h1, .ref hh, .ref sl, .ref sv, .ref tz, .ref az]))], aucW Y h0 ρ γ, hisW Y hh hb2 nx ct, ringW Y hb2 rr gg] H locs := hw
  refine lv_aload_n hx hb dX5_join_12 rfl (lv_at hl 0 rfl) ?_
  refine x_get M hK hw 0 0 rfl rfl ff_X5_22 rfl dX5_join_13 ?_
  refine lv_aload_n hx hb dX5_join_16 rfl (lv_at hl 0 rfl) ?_
  refine x_get M hK hw 0 0 rfl rfl ff_X5_10 rfl dX5_join_17 ?_
  refine x_cVV (As := [.ref h0]) (k_X2_remember l G Y hh hb2 nx ct h0 rr gg ρ γ (hI) (by omega) (by omega)) cw_X5_183 [2, 1, 3] 2 0 M hK hZ hw hl.1 rfl (by decide) rfl rfl rfl ⟨by decide, by decide⟩ ⟨Nat.zero_le _, Nat.zero_le _⟩ rfl rfl (Nat.le_of_ble_eq_true rfl) dX5_join_20 (fun sg h_3 H locs hw => ?_)
  obtain rfl := h_3
  have hw : xW G A s.heap [[(xo, .inr (4, [.ref h0, .ref h1, .ref hh, .ref sl, .ref sv, .ref tz, .ref az]))], aucW Y h0 ρ γ, hisW Y hh hb2 (nxt nx) (min (ct + 1) 14), ringW Y hb2 (setR rr nx ρ) (setR gg nx γ)] H locs := hw
  refine lv_aload_n hx hb dX5_join_23 rfl (lv_at hl 0 rfl) ?_
  refine x_get M hK hw 0 0 rfl rfl ff_X5_10 rfl dX5_join_24 ?_
  refine lv_iload_n hx hb dX5_join_27 rfl (lv_at hl 1 rfl) ?_
  refine lv_iload_n hx hb dX5_join_28 rfl (lv_at hl 2 rfl) ?_
  refine x_cVV (As := [.int (nI u), .int (nI v)]) (k_X1_addBidder l G Y h0 u v ρ γ (hI) (by omega)) cw_X5_197 [1] 1 0 M hK hZ hw hl.1 rfl (by decide) rfl rfl rfl ⟨by decide, by decide⟩ ⟨Nat.zero_le _, Nat.zero_le _⟩ rfl rfl (Nat.le_of_ble_eq_true rfl) dX5_join_29 (fun sg h_4 H locs hw => ?_)
  obtain ⟨γa5, rfl⟩ := h_4
  have hw : xW G A s.heap [[(xo, .inr (4, [.ref h0, .ref h1, .ref hh, .ref sl, .ref sv, .ref tz, .ref az]))], aucW Y h0 (mJoin ρ u v) γa5, hisW Y hh hb2 (nxt nx) (min (ct + 1) 14), ringW Y hb2 (setR rr nx ρ) (setR gg nx γ)] H locs := hw
  have e4 : (mJoin ρ u v) 4 = ρ 4 + 1 := setN_s
  refine lv_aload_n hx hb dX5_join_32 rfl (lv_at hl 0 rfl) ?_
  refine x_get M hK hw 0 0 rfl rfl ff_X5_10 rfl dX5_join_33 ?_
  refine x_get M hK hw 1 0 rfl rfl ff_X5_91 rfl dX5_join_36 ?_
  refine lv_iconst (v := (nI 1)) hx hb dX5_join_39 (by decide) ?_
  refine x_isub M (n := ρ 4) dX5_join_40 (by omega) ?_
  exact hret _ _ _ (nI (ρ 4)) _ _ dX5_join_41 hw rfl rfl ⟨rfl, γa5, rfl⟩
set_option maxHeartbeats 4000000 in
set_option maxRecDepth 20000 in
theorem k_X5_add (l : Launch) (G : va_G) (Y : Nat → Nat) (xo h0 h1 hh sl sv tz az : Nat) (hb2 nx ct : Nat) (rr : Nat → Nat → Nat) (gg : Nat → Nat → Nat → Nat) (b x y z v : Nat) (ρ : Nat → Nat) (γ : Nat → Nat → Nat) (hI : Inv ρ) (hnx : nx < 14) (hct : ct ≤ 14) (g0 : b < 2 ^ 31) (g1 : x < 2 ^ 31) (g2 : y < 2 ^ 31) (g3 : z < 2 ^ 31) (g4 : v < 2 ^ 31) (ht : tAdd ρ b x y z v = 0) : CtI l yX5_add cX5_add 6 .int 4 102 [.ref xo, .int (nI b), .int (nI x), .int (nI y), .int (nI z), .int (nI v)] [[(xo, .inr (4, [.ref h0, .ref h1, .ref hh, .ref sl, .ref sv, .ref tz, .ref az]))], aucW Y h0 ρ γ, hisW Y hh hb2 nx ct, ringW Y hb2 rr gg] (fun r sg => r = nI (ρ (22 + 21 * b) + 1) ∧ ∃ (γ' : Nat → Nat → Nat), sg = [[(xo, .inr (4, [.ref h0, .ref h1, .ref hh, .ref sl, .ref sv, .ref tz, .ref az]))], aucW Y h0 (mAdd ρ b x y z v) γ', hisW Y hh hb2 (nxt nx) (min (ct + 1) 14), ringW Y hb2 (setR rr nx ρ) (setR gg nx γ)]) G Y := by
  refine x_ofI (by decide) (Nat.le_of_ble_eq_true rfl) (fun p e s m args below meth c A ls Q M hK hZ hw hl hret => ?_)
  obtain ⟨hx, hb, -⟩ := id M
  have hl : lv_has ls 6 [(0, .ref xo), (1, .int (nI b)), (2, .int (nI x)), (3, .int (nI y)), (4, .int (nI z)), (5, .int (nI v))] := hl
  have := hI.n6
  have := hI.over
  have := hI.keep
  have := hI.stepp
  have hok := okN_add ht
  refine lv_aload_n hx hb dX5_add_0 rfl (lv_at hl 0 rfl) ?_
  refine x_get M hK hw 0 0 rfl rfl ff_X5_10 rfl dX5_add_1 ?_
  refine lv_iload_n hx hb dX5_add_4 rfl (lv_at hl 1 rfl) ?_
  refine lv_iload_n hx hb dX5_add_5 rfl (lv_at hl 2 rfl) ?_
  refine lv_iload_n hx hb dX5_add_6 rfl (lv_at hl 3 rfl) ?_
  refine lv_iload hx hb dX5_add_7 (lv_at hl 4 rfl) ?_
  refine lv_iload hx hb dX5_add_9 (lv_at hl 5 rfl) ?_
  refine x_cVI (As := [.int (nI b), .int (nI x), .int (nI y), .int (nI z), .int (nI v)]) (k_X1_whyNotAdd l G Y h0 ρ γ (nI b) (nI x) (nI y) (nI z) (nI v) (hI)) cw_X5_222 [1] 1 0 M hK hZ hw hl.1 rfl (by decide) rfl rfl rfl ⟨by decide, by decide⟩ ⟨Nat.zero_le _, Nat.zero_le _⟩ rfl rfl (Nat.le_of_ble_eq_true rfl) dX5_add_11 (fun r sg h_1 H locs hw => ?_)
  obtain ⟨rfl, rfl⟩ := h_1
  have hw : xW G A s.heap [[(xo, .inr (4, [.ref h0, .ref h1, .ref hh, .ref sl, .ref sv, .ref tz, .ref az]))], aucW Y h0 ρ γ, hisW Y hh hb2 nx ct, ringW Y hb2 rr gg] H locs := hw
  refine x_topN (n := 0) (congrArg nI (by have h9 := ht; unfold tAdd at h9; rw [nI_toInt g0, nI_toInt g1, nI_toInt g2, nI_toInt g3, nI_toInt g4]; exact h9)) ?_
  refine x_cSV (As := [.int (nI 0)]) (k_X5_refuse l G Y ) cw_X5_180 [] M hK hZ hw hl.1 rfl (by decide) ⟨by decide, by decide⟩ ⟨Nat.zero_le _, Nat.zero_le _⟩ rfl rfl (Nat.le_of_ble_eq_true rfl) dX5_add_14 (fun sg h_2 H locs hw => ?_)
  obtain rfl := h_2
  have hw : xW G A s.heap [[(xo, .inr (4, [.ref h0, .ref h1, .ref hh, .ref sl, .ref sv, .ref tz, .ref az]))], aucW Y h0 ρ γ, hisW Y hh hb2 nx ct, ringW Y hb2 rr gg] H locs := hw
  refine lv_aload_n hx hb dX5_add_17 rfl (lv_at hl 0 rfl) ?_
  refine x_get M hK hw 0 0 rfl rfl ff_X5_22 rfl dX5_add_18 ?_
  refine lv_aload_n hx hb dX5_add_21 rfl (lv_at hl 0 rfl) ?_
  refine x_get M hK hw 0 0 rfl rfl ff_X5_10 rfl dX5_add_22 ?_
  refine x_cVV (As := [.ref h0]) (k_X2_remember l G Y hh hb2 nx ct h0 rr gg ρ γ (hI) (by omega) (by omega)) cw_X5_183 [2, 1, 3] 2 0 M hK hZ hw hl.1 rfl (by decide) rfl rfl rfl ⟨by decide, by decide⟩ ⟨Nat.zero_le _, Nat.zero_le _⟩ rfl rfl (Nat.le_of_ble_eq_true rfl) dX5_add_25 (fun sg h_3 H locs hw => ?_)
  obtain rfl := h_3
  have hw : xW G A s.heap [[(xo, .inr (4, [.ref h0, .ref h1, .ref hh, .ref sl, .ref sv, .ref tz, .ref az]))], aucW Y h0 ρ γ, hisW Y hh hb2 (nxt nx) (min (ct + 1) 14), ringW Y hb2 (setR rr nx ρ) (setR gg nx γ)] H locs := hw
  refine lv_aload_n hx hb dX5_add_28 rfl (lv_at hl 0 rfl) ?_
  refine x_get M hK hw 0 0 rfl rfl ff_X5_10 rfl dX5_add_29 ?_
  refine lv_iload_n hx hb dX5_add_32 rfl (lv_at hl 1 rfl) ?_
  refine lv_iload_n hx hb dX5_add_33 rfl (lv_at hl 2 rfl) ?_
  refine lv_iload_n hx hb dX5_add_34 rfl (lv_at hl 3 rfl) ?_
  refine lv_iload hx hb dX5_add_35 (lv_at hl 4 rfl) ?_
  refine lv_iload hx hb dX5_add_37 (lv_at hl 5 rfl) ?_
  refine x_cVV (As := [.int (nI b), .int (nI x), .int (nI y), .int (nI z), .int (nI v)]) (k_X1_addPack l G Y h0 b x y z v ρ γ (hI) (by omega) (by omega)) cw_X5_226 [1] 1 0 M hK hZ hw hl.1 rfl (by decide) rfl rfl rfl ⟨by decide, by decide⟩ ⟨Nat.zero_le _, Nat.zero_le _⟩ rfl rfl (Nat.le_of_ble_eq_true rfl) dX5_add_39 (fun sg h_4 H locs hw => ?_)
  obtain ⟨γa5, rfl⟩ := h_4
  have hw : xW G A s.heap [[(xo, .inr (4, [.ref h0, .ref h1, .ref hh, .ref sl, .ref sv, .ref tz, .ref az]))], aucW Y h0 (mAdd ρ b x y z v) γa5, hisW Y hh hb2 (nxt nx) (min (ct + 1) 14), ringW Y hb2 (setR rr nx ρ) (setR gg nx γ)] H locs := hw
  have e4 : (mAdd ρ b x y z v) 4 = ρ 4 := mAdd_o hok.2.2.2.2.2 (by omega)
  refine lv_aload_n hx hb dX5_add_42 rfl (lv_at hl 0 rfl) ?_
  refine x_get M hK hw 0 0 rfl rfl ff_X5_10 rfl dX5_add_43 ?_
  refine x_get M hK hw 1 0 rfl rfl ff_X5_145 rfl dX5_add_46 ?_
  refine lv_iload_n hx hb dX5_add_49 rfl (lv_at hl 1 rfl) ?_
  refine x_iald M hK hw 1 6 rfl rfl (by omega) (by decide) dX5_add_50 ?_
  refine x_topN (n := (mAdd ρ b x y z v) (22 + 21 * b)) (congrArg nI (pck_at (j := b) (by omega) rfl (by omega))) ?_
  refine x_topN (n := ρ (22 + 21 * b) + 1) (congrArg nI (by unfold mAdd; exact setN_s)) ?_
  exact hret _ _ _ (nI (ρ (22 + 21 * b) + 1)) _ _ dX5_add_51 hw rfl rfl ⟨rfl, γa5, rfl⟩
set_option maxHeartbeats 4000000 in
set_option maxRecDepth 20000 in
theorem k_X5_drop (l : Launch) (G : va_G) (Y : Nat → Nat) (xo h0 h1 hh sl sv tz az : Nat) (hb2 nx ct : Nat) (rr : Nat → Nat → Nat) (gg : Nat → Nat → Nat → Nat) (b i : Nat) (ρ : Nat → Nat) (γ : Nat → Nat → Nat) (hI : Inv ρ) (hnx : nx < 14) (hct : ct ≤ 14) (g0 : b < 2 ^ 31) (g1 : i < 2 ^ 31) (ht : tDrop ρ b i = 0) : CtI l yX5_drop cX5_drop 3 .int 3 102 [.ref xo, .int (nI b), .int (nI i)] [[(xo, .inr (4, [.ref h0, .ref h1, .ref hh, .ref sl, .ref sv, .ref tz, .ref az]))], aucW Y h0 ρ γ, hisW Y hh hb2 nx ct, ringW Y hb2 rr gg] (fun r sg => r = nI (ρ (22 + 21 * b) - 1) ∧ ∃ (γ' : Nat → Nat → Nat), sg = [[(xo, .inr (4, [.ref h0, .ref h1, .ref hh, .ref sl, .ref sv, .ref tz, .ref az]))], aucW Y h0 (mDrop ρ b i) γ', hisW Y hh hb2 (nxt nx) (min (ct + 1) 14), ringW Y hb2 (setR rr nx ρ) (setR gg nx γ)]) G Y := by
  refine x_ofI (by decide) (Nat.le_of_ble_eq_true rfl) (fun p e s m args below meth c A ls Q M hK hZ hw hl hret => ?_)
  obtain ⟨hx, hb, -⟩ := id M
  have hl : lv_has ls 3 [(0, .ref xo), (1, .int (nI b)), (2, .int (nI i))] := hl
  have := hI.n6
  have := hI.over
  have := hI.keep
  have := hI.stepp
  have hok := okN_drop ht
  refine lv_aload_n hx hb dX5_drop_0 rfl (lv_at hl 0 rfl) ?_
  refine x_get M hK hw 0 0 rfl rfl ff_X5_10 rfl dX5_drop_1 ?_
  refine lv_iload_n hx hb dX5_drop_4 rfl (lv_at hl 1 rfl) ?_
  refine lv_iload_n hx hb dX5_drop_5 rfl (lv_at hl 2 rfl) ?_
  refine x_cVI (As := [.int (nI b), .int (nI i)]) (k_X1_whyNotDrop l G Y h0 ρ γ (nI b) (nI i) (hI)) cw_X5_230 [1] 1 0 M hK hZ hw hl.1 rfl (by decide) rfl rfl rfl ⟨by decide, by decide⟩ ⟨Nat.zero_le _, Nat.zero_le _⟩ rfl rfl (Nat.le_of_ble_eq_true rfl) dX5_drop_6 (fun r sg h_1 H locs hw => ?_)
  obtain ⟨rfl, rfl⟩ := h_1
  have hw : xW G A s.heap [[(xo, .inr (4, [.ref h0, .ref h1, .ref hh, .ref sl, .ref sv, .ref tz, .ref az]))], aucW Y h0 ρ γ, hisW Y hh hb2 nx ct, ringW Y hb2 rr gg] H locs := hw
  refine x_topN (n := 0) (congrArg nI (by have h9 := ht; unfold tDrop at h9; rw [nI_toInt g0, nI_toInt g1]; exact h9)) ?_
  refine x_cSV (As := [.int (nI 0)]) (k_X5_refuse l G Y ) cw_X5_180 [] M hK hZ hw hl.1 rfl (by decide) ⟨by decide, by decide⟩ ⟨Nat.zero_le _, Nat.zero_le _⟩ rfl rfl (Nat.le_of_ble_eq_true rfl) dX5_drop_9 (fun sg h_2 H locs hw => ?_)
  obtain rfl := h_2
  have hw : xW G A s.heap [[(xo, .inr (4, [.ref h0, .ref h1, .ref hh, .ref sl, .ref sv, .ref tz, .ref az]))], aucW Y h0 ρ γ, hisW Y hh hb2 nx ct, ringW Y hb2 rr gg] H locs := hw
  refine lv_aload_n hx hb dX5_drop_12 rfl (lv_at hl 0 rfl) ?_
  refine x_get M hK hw 0 0 rfl rfl ff_X5_22 rfl dX5_drop_13 ?_
  refine lv_aload_n hx hb dX5_drop_16 rfl (lv_at hl 0 rfl) ?_
  refine x_get M hK hw 0 0 rfl rfl ff_X5_10 rfl dX5_drop_17 ?_
  refine x_cVV (As := [.ref h0]) (k_X2_remember l G Y hh hb2 nx ct h0 rr gg ρ γ (hI) (by omega) (by omega)) cw_X5_183 [2, 1, 3] 2 0 M hK hZ hw hl.1 rfl (by decide) rfl rfl rfl ⟨by decide, by decide⟩ ⟨Nat.zero_le _, Nat.zero_le _⟩ rfl rfl (Nat.le_of_ble_eq_true rfl) dX5_drop_20 (fun sg h_3 H locs hw => ?_)
  obtain rfl := h_3
  have hw : xW G A s.heap [[(xo, .inr (4, [.ref h0, .ref h1, .ref hh, .ref sl, .ref sv, .ref tz, .ref az]))], aucW Y h0 ρ γ, hisW Y hh hb2 (nxt nx) (min (ct + 1) 14), ringW Y hb2 (setR rr nx ρ) (setR gg nx γ)] H locs := hw
  refine lv_aload_n hx hb dX5_drop_23 rfl (lv_at hl 0 rfl) ?_
  refine x_get M hK hw 0 0 rfl rfl ff_X5_10 rfl dX5_drop_24 ?_
  refine lv_iload_n hx hb dX5_drop_27 rfl (lv_at hl 1 rfl) ?_
  refine lv_iload_n hx hb dX5_drop_28 rfl (lv_at hl 2 rfl) ?_
  refine x_cVV (As := [.int (nI b), .int (nI i)]) (k_X1_dropPack l G Y h0 b i ρ γ (hI) (by omega) (by omega) (by omega)) cw_X5_233 [1] 1 0 M hK hZ hw hl.1 rfl (by decide) rfl rfl rfl ⟨by decide, by decide⟩ ⟨Nat.zero_le _, Nat.zero_le _⟩ rfl rfl (Nat.le_of_ble_eq_true rfl) dX5_drop_29 (fun sg h_4 H locs hw => ?_)
  obtain ⟨γa5, rfl⟩ := h_4
  have hw : xW G A s.heap [[(xo, .inr (4, [.ref h0, .ref h1, .ref hh, .ref sl, .ref sv, .ref tz, .ref az]))], aucW Y h0 (mDrop ρ b i) γa5, hisW Y hh hb2 (nxt nx) (min (ct + 1) 14), ringW Y hb2 (setR rr nx ρ) (setR gg nx γ)] H locs := hw
  have hpk := hI.pck (j := b) hok.1 rfl; have e4 : (mDrop ρ b i) 4 = ρ 4 := mDrop_o ⟨hok.2.1, by omega⟩ (by omega)
  refine lv_aload_n hx hb dX5_drop_32 rfl (lv_at hl 0 rfl) ?_
  refine x_get M hK hw 0 0 rfl rfl ff_X5_10 rfl dX5_drop_33 ?_
  refine x_get M hK hw 1 0 rfl rfl ff_X5_145 rfl dX5_drop_36 ?_
  refine lv_iload_n hx hb dX5_drop_39 rfl (lv_at hl 1 rfl) ?_
  refine x_iald M hK hw 1 6 rfl rfl (by omega) (by decide) dX5_drop_40 ?_
  refine x_topN (n := (mDrop ρ b i) (22 + 21 * b)) (congrArg nI (pck_at (j := b) (by omega) rfl (by omega))) ?_
  refine x_topN (n := ρ (22 + 21 * b) - 1) (congrArg nI (by unfold mDrop; rw [if_pos rfl])) ?_
  exact hret _ _ _ (nI (ρ (22 + 21 * b) - 1)) _ _ dX5_drop_41 hw rfl rfl ⟨rfl, γa5, rfl⟩
set_option maxHeartbeats 4000000 in
set_option maxRecDepth 20000 in
theorem k_X5_set (l : Launch) (G : va_G) (Y : Nat → Nat) (xo h0 h1 hh sl sv tz az : Nat) (hb2 nx ct : Nat) (rr : Nat → Nat → Nat) (gg : Nat → Nat → Nat → Nat) (w v : Nat) (ρ : Nat → Nat) (γ : Nat → Nat → Nat) (hI : Inv ρ) (hnx : nx < 14) (hct : ct ≤ 14) (g0 : w < 2 ^ 31) (g1 : v < 2 ^ 31) (ht : tSet w v = 0) : CtI l yX5_set cX5_set 4 .int 3 102 [.ref xo, .int (nI w), .int (nI v)] [[(xo, .inr (4, [.ref h0, .ref h1, .ref hh, .ref sl, .ref sv, .ref tz, .ref az]))], aucW Y h0 ρ γ, hisW Y hh hb2 nx ct, ringW Y hb2 rr gg] (fun r sg => r = nI (setOf ρ (w : Int)) ∧ ∃ (γ' : Nat → Nat → Nat), sg = [[(xo, .inr (4, [.ref h0, .ref h1, .ref hh, .ref sl, .ref sv, .ref tz, .ref az]))], aucW Y h0 (mSet ρ (w : Int) v) γ', hisW Y hh hb2 (nxt nx) (min (ct + 1) 14), ringW Y hb2 (setR rr nx ρ) (setR gg nx γ)]) G Y := by
  refine x_ofI (by decide) (Nat.le_of_ble_eq_true rfl) (fun p e s m args below meth c A ls Q M hK hZ hw hl hret => ?_)
  obtain ⟨hx, hb, -⟩ := id M
  have hl : lv_has ls 4 [(0, .ref xo), (1, .int (nI w)), (2, .int (nI v))] := hl
  have := hI.n6
  have := hI.over
  have := hI.keep
  have := hI.stepp
  have hok := okN_set ht
  refine lv_aload_n hx hb dX5_set_0 rfl (lv_at hl 0 rfl) ?_
  refine x_get M hK hw 0 0 rfl rfl ff_X5_10 rfl dX5_set_1 ?_
  refine lv_iload_n hx hb dX5_set_4 rfl (lv_at hl 1 rfl) ?_
  refine lv_iload_n hx hb dX5_set_5 rfl (lv_at hl 2 rfl) ?_
  refine x_cVI (As := [.int (nI w), .int (nI v)]) (k_X1_whyNotSet l G Y h0 ρ γ (nI w) (nI v) (hI)) cw_X5_236 [1] 1 0 M hK hZ hw hl.1 rfl (by decide) rfl rfl rfl ⟨by decide, by decide⟩ ⟨Nat.zero_le _, Nat.zero_le _⟩ rfl rfl (Nat.le_of_ble_eq_true rfl) dX5_set_6 (fun r sg h_1 H locs hw => ?_)
  obtain ⟨rfl, rfl⟩ := h_1
  have hw : xW G A s.heap [[(xo, .inr (4, [.ref h0, .ref h1, .ref hh, .ref sl, .ref sv, .ref tz, .ref az]))], aucW Y h0 ρ γ, hisW Y hh hb2 nx ct, ringW Y hb2 rr gg] H locs := hw
  refine x_topN (n := 0) (congrArg nI (by have h9 := ht; unfold tSet at h9; rw [nI_toInt g0, nI_toInt g1]; exact h9)) ?_
  refine x_cSV (As := [.int (nI 0)]) (k_X5_refuse l G Y ) cw_X5_180 [] M hK hZ hw hl.1 rfl (by decide) ⟨by decide, by decide⟩ ⟨Nat.zero_le _, Nat.zero_le _⟩ rfl rfl (Nat.le_of_ble_eq_true rfl) dX5_set_9 (fun sg h_2 H locs hw => ?_)
  obtain rfl := h_2
  have hw : xW G A s.heap [[(xo, .inr (4, [.ref h0, .ref h1, .ref hh, .ref sl, .ref sv, .ref tz, .ref az]))], aucW Y h0 ρ γ, hisW Y hh hb2 nx ct, ringW Y hb2 rr gg] H locs := hw
  refine lv_aload_n hx hb dX5_set_12 rfl (lv_at hl 0 rfl) ?_
  refine x_get M hK hw 0 0 rfl rfl ff_X5_22 rfl dX5_set_13 ?_
  refine lv_aload_n hx hb dX5_set_16 rfl (lv_at hl 0 rfl) ?_
  refine x_get M hK hw 0 0 rfl rfl ff_X5_10 rfl dX5_set_17 ?_
  refine x_cVV (As := [.ref h0]) (k_X2_remember l G Y hh hb2 nx ct h0 rr gg ρ γ (hI) (by omega) (by omega)) cw_X5_183 [2, 1, 3] 2 0 M hK hZ hw hl.1 rfl (by decide) rfl rfl rfl ⟨by decide, by decide⟩ ⟨Nat.zero_le _, Nat.zero_le _⟩ rfl rfl (Nat.le_of_ble_eq_true rfl) dX5_set_20 (fun sg h_3 H locs hw => ?_)
  obtain rfl := h_3
  have hw : xW G A s.heap [[(xo, .inr (4, [.ref h0, .ref h1, .ref hh, .ref sl, .ref sv, .ref tz, .ref az]))], aucW Y h0 ρ γ, hisW Y hh hb2 (nxt nx) (min (ct + 1) 14), ringW Y hb2 (setR rr nx ρ) (setR gg nx γ)] H locs := hw
  refine lv_aload_n hx hb dX5_set_23 rfl (lv_at hl 0 rfl) ?_
  refine x_get M hK hw 0 0 rfl rfl ff_X5_10 rfl dX5_set_24 ?_
  refine lv_iload_n hx hb dX5_set_27 rfl (lv_at hl 1 rfl) ?_
  refine x_cVI (As := [.int (nI w)]) (k_X1_settingOf l G Y h0 ρ γ (nI w) (hI)) cw_X5_174 [1] 1 0 M hK hZ hw hl.1 rfl (by decide) rfl rfl rfl ⟨by decide, by decide⟩ ⟨Nat.zero_le _, Nat.zero_le _⟩ rfl rfl (Nat.le_of_ble_eq_true rfl) dX5_set_28 (fun r sg h_4 H locs hw => ?_)
  obtain ⟨rfl, rfl⟩ := h_4
  have hw : xW G A s.heap [[(xo, .inr (4, [.ref h0, .ref h1, .ref hh, .ref sl, .ref sv, .ref tz, .ref az]))], aucW Y h0 ρ γ, hisW Y hh hb2 (nxt nx) (min (ct + 1) 14), ringW Y hb2 (setR rr nx ρ) (setR gg nx γ)] H locs := hw
  refine x_topN (n := setOf ρ (w : Int)) (by rw [nI_toInt g0]) ?_
  refine lv_istore_n (lv' := [(3, .int (nI (setOf ρ (w : Int)))), (0, .ref xo), (1, .int (nI w)), (2, .int (nI v))]) hx hb dX5_set_31 rfl hl (by decide) rfl (fun ls hl => ?_)
  refine lv_aload_n hx hb dX5_set_32 rfl (lv_at hl 1 rfl) ?_
  refine x_get M hK hw 0 0 rfl rfl ff_X5_10 rfl dX5_set_33 ?_
  refine lv_iload_n hx hb dX5_set_36 rfl (lv_at hl 2 rfl) ?_
  refine lv_iload_n hx hb dX5_set_37 rfl (lv_at hl 3 rfl) ?_
  refine x_cVV (As := [.int (nI w), .int (nI v)]) (k_X1_changeSetting l G Y h0 v ρ γ (nI w) (hI)) cw_X5_239 [1] 1 0 M hK hZ hw hl.1 rfl (by decide) rfl rfl rfl ⟨by decide, by decide⟩ ⟨Nat.zero_le _, Nat.zero_le _⟩ rfl rfl (Nat.le_of_ble_eq_true rfl) dX5_set_38 (fun sg h_5 H locs hw => ?_)
  obtain ⟨γa6, rfl⟩ := h_5
  have hw : xW G A s.heap [[(xo, .inr (4, [.ref h0, .ref h1, .ref hh, .ref sl, .ref sv, .ref tz, .ref az]))], aucW Y h0 (mSet ρ (nI w).toInt v) γa6, hisW Y hh hb2 (nxt nx) (min (ct + 1) 14), ringW Y hb2 (setR rr nx ρ) (setR gg nx γ)] H locs := hw
  refine lv_iload_n hx hb dX5_set_41 rfl (lv_at hl 0 rfl) ?_
  rw [nI_toInt g0] at hw
  exact hret _ _ _ (nI (setOf ρ (w : Int))) _ _ dX5_set_42 hw rfl rfl ⟨rfl, γa6, rfl⟩
set_option maxHeartbeats 4000000 in
set_option maxRecDepth 20000 in
theorem k_X5_undo (l : Launch) (G : va_G) (Y : Nat → Nat) (xo h0 h1 hh sl sv tz az : Nat) (hb2 nx ct : Nat) (rr : Nat → Nat → Nat) (gg : Nat → Nat → Nat → Nat) (ρ : Nat → Nat) (γ : Nat → Nat → Nat) (hnx : nx < 14) (hct : ct ≤ 14) (hct0 : 0 < ct) (hIr : Inv (rr (prv nx))) : CtI l yX5_undo cX5_undo 1 .int 3 102 [.ref xo] [[(xo, .inr (4, [.ref h0, .ref h1, .ref hh, .ref sl, .ref sv, .ref tz, .ref az]))], aucW Y h0 ρ γ, hisW Y hh hb2 nx ct, ringW Y hb2 rr gg] (fun r sg => r = nI (ct - 1) ∧ sg = [[(xo, .inr (4, [.ref h0, .ref h1, .ref hh, .ref sl, .ref sv, .ref tz, .ref az]))], aucW Y h0 (rr (prv nx)) (gg (prv nx)), hisW Y hh hb2 (prv nx) (ct - 1), ringW Y hb2 rr gg]) G Y := by
  refine x_ofI (by decide) (Nat.le_of_ble_eq_true rfl) (fun p e s m args below meth c A ls Q M hK hZ hw hl hret => ?_)
  obtain ⟨hx, hb, -⟩ := id M
  have hl : lv_has ls 1 [(0, .ref xo)] := hl
  refine lv_aload_n hx hb dX5_undo_0 rfl (lv_at hl 0 rfl) ?_
  refine x_get M hK hw 0 0 rfl rfl ff_X5_22 rfl dX5_undo_1 ?_
  refine x_cVI (As := []) (k_X2_isEmpty l G Y hh hb2 nx ct (by omega)) cw_X5_242 [2] 2 0 M hK hZ hw hl.1 rfl (by decide) rfl rfl rfl ⟨by decide, by decide⟩ ⟨Nat.zero_le _, Nat.zero_le _⟩ rfl rfl (Nat.le_of_ble_eq_true rfl) dX5_undo_4 (fun r sg h_1 H locs hw => ?_)
  obtain ⟨rfl, rfl⟩ := h_1
  have hw : xW G A s.heap [[(xo, .inr (4, [.ref h0, .ref h1, .ref hh, .ref sl, .ref sv, .ref tz, .ref az]))], aucW Y h0 ρ γ, hisW Y hh hb2 nx ct, ringW Y hb2 rr gg] H locs := hw
  refine x_beq M (tgt := 20) dX5_undo_7 (by decide) (fun c_2 => ?_) (fun c_2 => absurd c_2 (fun z => absurd (of_decide_eq_true z) (by omega)))
  refine lv_aload_n hx hb dX5_undo_20 rfl (lv_at hl 0 rfl) ?_
  refine x_get M hK hw 0 0 rfl rfl ff_X5_22 rfl dX5_undo_21 ?_
  refine lv_aload_n hx hb dX5_undo_24 rfl (lv_at hl 0 rfl) ?_
  refine x_get M hK hw 0 0 rfl rfl ff_X5_10 rfl dX5_undo_25 ?_
  refine x_cVV (As := [.ref h0]) (k_X2_takeBack l G Y hh hb2 nx ct h0 rr gg ρ γ (by omega) (by omega) (by omega) (by omega)) cw_X5_247 [2, 1, 3] 2 0 M hK hZ hw hl.1 rfl (by decide) rfl rfl rfl ⟨by decide, by decide⟩ ⟨Nat.zero_le _, Nat.zero_le _⟩ rfl rfl (Nat.le_of_ble_eq_true rfl) dX5_undo_28 (fun sg h_3 H locs hw => ?_)
  obtain rfl := h_3
  have hw : xW G A s.heap [[(xo, .inr (4, [.ref h0, .ref h1, .ref hh, .ref sl, .ref sv, .ref tz, .ref az]))], aucW Y h0 (rr (prv nx)) (gg (prv nx)), hisW Y hh hb2 (prv nx) (ct - 1), ringW Y hb2 rr gg] H locs := hw
  refine lv_aload_n hx hb dX5_undo_31 rfl (lv_at hl 0 rfl) ?_
  refine x_get M hK hw 0 0 rfl rfl ff_X5_22 rfl dX5_undo_32 ?_
  refine x_cVI (As := []) (k_X2_size l G Y hh hb2 (prv nx) (ct - 1)) cw_X5_250 [2] 2 0 M hK hZ hw hl.1 rfl (by decide) rfl rfl rfl ⟨by decide, by decide⟩ ⟨Nat.zero_le _, Nat.zero_le _⟩ rfl rfl (Nat.le_of_ble_eq_true rfl) dX5_undo_35 (fun r sg h_4 H locs hw => ?_)
  obtain ⟨rfl, rfl⟩ := h_4
  have hw : xW G A s.heap [[(xo, .inr (4, [.ref h0, .ref h1, .ref hh, .ref sl, .ref sv, .ref tz, .ref az]))], aucW Y h0 (rr (prv nx)) (gg (prv nx)), hisW Y hh hb2 (prv nx) (ct - 1), ringW Y hb2 rr gg] H locs := hw
  exact hret _ _ _ (nI (ct - 1)) _ _ dX5_undo_38 hw rfl rfl ⟨rfl, rfl⟩
set_option maxHeartbeats 4000000 in
set_option maxRecDepth 20000 in
theorem t_X5_undo (l : Launch) (hfl : l.stackTraces = false) (G : va_G) (Y : Nat → Nat) (xo h0 h1 hh sl sv tz az : Nat) (hb2 nx ct : Nat) (hct0 : ct = 0) : CtT l yX5_undo cX5_undo 1 (some .int) 6 82 [.ref xo] [[(xo, .inr (4, [.ref h0, .ref h1, .ref hh, .ref sl, .ref sv, .ref tz, .ref az]))], hisW Y hh hb2 nx ct] eISE G Y := by
  refine x_ofT (by decide) (Nat.le_of_ble_eq_true rfl) (fun p e s m args below meth c A ls Q M hK hZ hw hl htab hlk hQ => ?_)
  obtain ⟨hx, hb, -⟩ := id M
  have hl : lv_has ls 1 [(0, .ref xo)] := hl
  refine lv_aload_n hx hb dX5_undo_0 rfl (lv_at hl 0 rfl) ?_
  refine x_get M hK hw 0 0 rfl rfl ff_X5_22 rfl dX5_undo_1 ?_
  refine x_cVI (As := []) (k_X2_isEmpty l G Y hh hb2 nx ct (by omega)) cw_X5_242 [1] 1 0 M hK hZ hw hl.1 rfl (by decide) rfl rfl rfl ⟨by decide, by decide⟩ ⟨Nat.zero_le _, Nat.zero_le _⟩ rfl rfl (Nat.le_of_ble_eq_true rfl) dX5_undo_4 (fun r sg h_1 H locs hw => ?_)
  obtain ⟨rfl, rfl⟩ := h_1
  have hw : xW G A s.heap [[(xo, .inr (4, [.ref h0, .ref h1, .ref hh, .ref sl, .ref sv, .ref tz, .ref az]))], hisW Y hh hb2 nx ct] H locs := hw
  refine x_beq M (tgt := 20) dX5_undo_7 (by decide) (fun c_2 => absurd c_2 (fun z => absurd (of_decide_eq_false z) (by omega))) (fun c_2 => ?_)
  exact x_throwS (own := RX5) (ik := 63) (ic := 67) (is := 245) (q := 225) (text := "no state is remembered") hfl M hK hZ hw hl.1 htab hlk hQ thr_ISE (by simp [xStr]) dX5_undo_10 dX5_undo_13 dX5_undo_14 dX5_undo_16 dX5_undo_19 ⟨by decide, by decide, by decide, by decide⟩
set_option maxHeartbeats 4000000 in
set_option maxRecDepth 20000 in
theorem t_X5_offer_1 (l : Launch) (hfl : l.stackTraces = false) (G : va_G) (Y : Nat → Nat) (xo h0 h1 hh sl sv tz az : Nat) (k u v : Int32) (ρ : Nat → Nat) (γ : Nat → Nat → Nat) (hI : Inv ρ) (hwhy : whyOffer ρ k.toInt u.toInt v.toInt = 1) : CtT l yX5_offer cX5_offer 5 (some .int) 7 102 [.ref xo, .int k, .int u, .int v] [[(xo, .inr (4, [.ref h0, .ref h1, .ref hh, .ref sl, .ref sv, .ref tz, .ref az]))], aucW Y h0 ρ γ] eIOB G Y := by
  refine x_ofT (by decide) (Nat.le_of_ble_eq_true rfl) (fun p e s m args below meth c A ls Q M hK hZ hw hl htab hlk hQ => ?_)
  obtain ⟨hx, hb, -⟩ := id M
  have hl : lv_has ls 5 [(0, .ref xo), (1, .int k), (2, .int u), (3, .int v)] := hl
  have := hI.n6
  refine lv_aload_n hx hb dX5_offer_0 rfl (lv_at hl 0 rfl) ?_
  refine x_get M hK hw 0 0 rfl rfl ff_X5_10 rfl dX5_offer_1 ?_
  refine lv_iload_n hx hb dX5_offer_4 rfl (lv_at hl 1 rfl) ?_
  refine lv_iload_n hx hb dX5_offer_5 rfl (lv_at hl 2 rfl) ?_
  refine lv_iload_n hx hb dX5_offer_6 rfl (lv_at hl 3 rfl) ?_
  refine x_cVI (As := [.int k, .int u, .int v]) (k_X1_whyNotOffer l G Y h0 ρ γ k u v (hI)) cw_X5_177 [1] 1 0 M hK hZ hw hl.1 rfl (by decide) rfl rfl rfl ⟨by decide, by decide⟩ ⟨Nat.zero_le _, Nat.zero_le _⟩ rfl rfl (Nat.le_of_ble_eq_true rfl) dX5_offer_7 (fun r sg h_1 H locs hw => ?_)
  obtain ⟨rfl, rfl⟩ := h_1
  have hw : xW G A s.heap [[(xo, .inr (4, [.ref h0, .ref h1, .ref hh, .ref sl, .ref sv, .ref tz, .ref az]))], aucW Y h0 ρ γ] H locs := hw
  refine x_topN (n := 1) (congrArg nI hwhy) ?_
  exact x_cST (As := [.int (nI 1)]) (t_X5_refuse_1 l hfl G Y ) cw_X5_180 [] M hK hZ hw hl.1 rfl (by decide) ⟨by decide, by decide⟩ ⟨by decide, by decide⟩ rfl rfl (Nat.le_of_ble_eq_true rfl) dX5_offer_10 htab hlk hQ
set_option maxHeartbeats 4000000 in
set_option maxRecDepth 20000 in
theorem t_X5_offer_2 (l : Launch) (hfl : l.stackTraces = false) (G : va_G) (Y : Nat → Nat) (xo h0 h1 hh sl sv tz az : Nat) (k u v : Int32) (ρ : Nat → Nat) (γ : Nat → Nat → Nat) (hI : Inv ρ) (hwhy : whyOffer ρ k.toInt u.toInt v.toInt = 2) : CtT l yX5_offer cX5_offer 5 (some .int) 7 102 [.ref xo, .int k, .int u, .int v] [[(xo, .inr (4, [.ref h0, .ref h1, .ref hh, .ref sl, .ref sv, .ref tz, .ref az]))], aucW Y h0 ρ γ] eIAE G Y := by
  refine x_ofT (by decide) (Nat.le_of_ble_eq_true rfl) (fun p e s m args below meth c A ls Q M hK hZ hw hl htab hlk hQ => ?_)
  obtain ⟨hx, hb, -⟩ := id M
  have hl : lv_has ls 5 [(0, .ref xo), (1, .int k), (2, .int u), (3, .int v)] := hl
  have := hI.n6
  refine lv_aload_n hx hb dX5_offer_0 rfl (lv_at hl 0 rfl) ?_
  refine x_get M hK hw 0 0 rfl rfl ff_X5_10 rfl dX5_offer_1 ?_
  refine lv_iload_n hx hb dX5_offer_4 rfl (lv_at hl 1 rfl) ?_
  refine lv_iload_n hx hb dX5_offer_5 rfl (lv_at hl 2 rfl) ?_
  refine lv_iload_n hx hb dX5_offer_6 rfl (lv_at hl 3 rfl) ?_
  refine x_cVI (As := [.int k, .int u, .int v]) (k_X1_whyNotOffer l G Y h0 ρ γ k u v (hI)) cw_X5_177 [1] 1 0 M hK hZ hw hl.1 rfl (by decide) rfl rfl rfl ⟨by decide, by decide⟩ ⟨Nat.zero_le _, Nat.zero_le _⟩ rfl rfl (Nat.le_of_ble_eq_true rfl) dX5_offer_7 (fun r sg h_1 H locs hw => ?_)
  obtain ⟨rfl, rfl⟩ := h_1
  have hw : xW G A s.heap [[(xo, .inr (4, [.ref h0, .ref h1, .ref hh, .ref sl, .ref sv, .ref tz, .ref az]))], aucW Y h0 ρ γ] H locs := hw
  refine x_topN (n := 2) (congrArg nI hwhy) ?_
  exact x_cST (As := [.int (nI 2)]) (t_X5_refuse_2 l hfl G Y ) cw_X5_180 [] M hK hZ hw hl.1 rfl (by decide) ⟨by decide, by decide⟩ ⟨by decide, by decide⟩ rfl rfl (Nat.le_of_ble_eq_true rfl) dX5_offer_10 htab hlk hQ
set_option maxHeartbeats 4000000 in
set_option maxRecDepth 20000 in
theorem t_X5_offer_3 (l : Launch) (hfl : l.stackTraces = false) (G : va_G) (Y : Nat → Nat) (xo h0 h1 hh sl sv tz az : Nat) (k u v : Int32) (ρ : Nat → Nat) (γ : Nat → Nat → Nat) (hI : Inv ρ) (hwhy : whyOffer ρ k.toInt u.toInt v.toInt = 3) : CtT l yX5_offer cX5_offer 5 (some .int) 7 102 [.ref xo, .int k, .int u, .int v] [[(xo, .inr (4, [.ref h0, .ref h1, .ref hh, .ref sl, .ref sv, .ref tz, .ref az]))], aucW Y h0 ρ γ] eISE G Y := by
  refine x_ofT (by decide) (Nat.le_of_ble_eq_true rfl) (fun p e s m args below meth c A ls Q M hK hZ hw hl htab hlk hQ => ?_)
  obtain ⟨hx, hb, -⟩ := id M
  have hl : lv_has ls 5 [(0, .ref xo), (1, .int k), (2, .int u), (3, .int v)] := hl
  have := hI.n6
  refine lv_aload_n hx hb dX5_offer_0 rfl (lv_at hl 0 rfl) ?_
  refine x_get M hK hw 0 0 rfl rfl ff_X5_10 rfl dX5_offer_1 ?_
  refine lv_iload_n hx hb dX5_offer_4 rfl (lv_at hl 1 rfl) ?_
  refine lv_iload_n hx hb dX5_offer_5 rfl (lv_at hl 2 rfl) ?_
  refine lv_iload_n hx hb dX5_offer_6 rfl (lv_at hl 3 rfl) ?_
  refine x_cVI (As := [.int k, .int u, .int v]) (k_X1_whyNotOffer l G Y h0 ρ γ k u v (hI)) cw_X5_177 [1] 1 0 M hK hZ hw hl.1 rfl (by decide) rfl rfl rfl ⟨by decide, by decide⟩ ⟨Nat.zero_le _, Nat.zero_le _⟩ rfl rfl (Nat.le_of_ble_eq_true rfl) dX5_offer_7 (fun r sg h_1 H locs hw => ?_)
  obtain ⟨rfl, rfl⟩ := h_1
  have hw : xW G A s.heap [[(xo, .inr (4, [.ref h0, .ref h1, .ref hh, .ref sl, .ref sv, .ref tz, .ref az]))], aucW Y h0 ρ γ] H locs := hw
  refine x_topN (n := 3) (congrArg nI hwhy) ?_
  exact x_cST (As := [.int (nI 3)]) (t_X5_refuse_3 l hfl G Y ) cw_X5_180 [] M hK hZ hw hl.1 rfl (by decide) ⟨by decide, by decide⟩ ⟨by decide, by decide⟩ rfl rfl (Nat.le_of_ble_eq_true rfl) dX5_offer_10 htab hlk hQ
set_option maxHeartbeats 4000000 in
set_option maxRecDepth 20000 in
theorem t_X5_price_1 (l : Launch) (hfl : l.stackTraces = false) (G : va_G) (Y : Nat → Nat) (xo h0 h1 hh sl sv tz az : Nat) (k v : Int32) (ρ : Nat → Nat) (γ : Nat → Nat → Nat) (hI : Inv ρ) (hwhy : whyPrice ρ k.toInt v.toInt = 1) : CtT l yX5_price cX5_price 4 (some .int) 7 102 [.ref xo, .int k, .int v] [[(xo, .inr (4, [.ref h0, .ref h1, .ref hh, .ref sl, .ref sv, .ref tz, .ref az]))], aucW Y h0 ρ γ] eIOB G Y := by
  refine x_ofT (by decide) (Nat.le_of_ble_eq_true rfl) (fun p e s m args below meth c A ls Q M hK hZ hw hl htab hlk hQ => ?_)
  obtain ⟨hx, hb, -⟩ := id M
  have hl : lv_has ls 4 [(0, .ref xo), (1, .int k), (2, .int v)] := hl
  have := hI.n6
  refine lv_aload_n hx hb dX5_price_0 rfl (lv_at hl 0 rfl) ?_
  refine x_get M hK hw 0 0 rfl rfl ff_X5_10 rfl dX5_price_1 ?_
  refine lv_iload_n hx hb dX5_price_4 rfl (lv_at hl 1 rfl) ?_
  refine lv_iload_n hx hb dX5_price_5 rfl (lv_at hl 2 rfl) ?_
  refine x_cVI (As := [.int k, .int v]) (k_X1_whyNotPrice l G Y h0 ρ γ k v (hI)) cw_X5_191 [1] 1 0 M hK hZ hw hl.1 rfl (by decide) rfl rfl rfl ⟨by decide, by decide⟩ ⟨Nat.zero_le _, Nat.zero_le _⟩ rfl rfl (Nat.le_of_ble_eq_true rfl) dX5_price_6 (fun r sg h_1 H locs hw => ?_)
  obtain ⟨rfl, rfl⟩ := h_1
  have hw : xW G A s.heap [[(xo, .inr (4, [.ref h0, .ref h1, .ref hh, .ref sl, .ref sv, .ref tz, .ref az]))], aucW Y h0 ρ γ] H locs := hw
  refine x_topN (n := 1) (congrArg nI hwhy) ?_
  exact x_cST (As := [.int (nI 1)]) (t_X5_refuse_1 l hfl G Y ) cw_X5_180 [] M hK hZ hw hl.1 rfl (by decide) ⟨by decide, by decide⟩ ⟨by decide, by decide⟩ rfl rfl (Nat.le_of_ble_eq_true rfl) dX5_price_9 htab hlk hQ
set_option maxHeartbeats 4000000 in
set_option maxRecDepth 20000 in
theorem t_X5_price_2 (l : Launch) (hfl : l.stackTraces = false) (G : va_G) (Y : Nat → Nat) (xo h0 h1 hh sl sv tz az : Nat) (k v : Int32) (ρ : Nat → Nat) (γ : Nat → Nat → Nat) (hI : Inv ρ) (hwhy : whyPrice ρ k.toInt v.toInt = 2) : CtT l yX5_price cX5_price 4 (some .int) 7 102 [.ref xo, .int k, .int v] [[(xo, .inr (4, [.ref h0, .ref h1, .ref hh, .ref sl, .ref sv, .ref tz, .ref az]))], aucW Y h0 ρ γ] eIAE G Y := by
  refine x_ofT (by decide) (Nat.le_of_ble_eq_true rfl) (fun p e s m args below meth c A ls Q M hK hZ hw hl htab hlk hQ => ?_)
  obtain ⟨hx, hb, -⟩ := id M
  have hl : lv_has ls 4 [(0, .ref xo), (1, .int k), (2, .int v)] := hl
  have := hI.n6
  refine lv_aload_n hx hb dX5_price_0 rfl (lv_at hl 0 rfl) ?_
  refine x_get M hK hw 0 0 rfl rfl ff_X5_10 rfl dX5_price_1 ?_
  refine lv_iload_n hx hb dX5_price_4 rfl (lv_at hl 1 rfl) ?_
  refine lv_iload_n hx hb dX5_price_5 rfl (lv_at hl 2 rfl) ?_
  refine x_cVI (As := [.int k, .int v]) (k_X1_whyNotPrice l G Y h0 ρ γ k v (hI)) cw_X5_191 [1] 1 0 M hK hZ hw hl.1 rfl (by decide) rfl rfl rfl ⟨by decide, by decide⟩ ⟨Nat.zero_le _, Nat.zero_le _⟩ rfl rfl (Nat.le_of_ble_eq_true rfl) dX5_price_6 (fun r sg h_1 H locs hw => ?_)
  obtain ⟨rfl, rfl⟩ := h_1
  have hw : xW G A s.heap [[(xo, .inr (4, [.ref h0, .ref h1, .ref hh, .ref sl, .ref sv, .ref tz, .ref az]))], aucW Y h0 ρ γ] H locs := hw
  refine x_topN (n := 2) (congrArg nI hwhy) ?_
  exact x_cST (As := [.int (nI 2)]) (t_X5_refuse_2 l hfl G Y ) cw_X5_180 [] M hK hZ hw hl.1 rfl (by decide) ⟨by decide, by decide⟩ ⟨by decide, by decide⟩ rfl rfl (Nat.le_of_ble_eq_true rfl) dX5_price_9 htab hlk hQ
set_option maxHeartbeats 4000000 in
set_option maxRecDepth 20000 in
theorem t_X5_price_3 (l : Launch) (hfl : l.stackTraces = false) (G : va_G) (Y : Nat → Nat) (xo h0 h1 hh sl sv tz az : Nat) (k v : Int32) (ρ : Nat → Nat) (γ : Nat → Nat → Nat) (hI : Inv ρ) (hwhy : whyPrice ρ k.toInt v.toInt = 3) : CtT l yX5_price cX5_price 4 (some .int) 7 102 [.ref xo, .int k, .int v] [[(xo, .inr (4, [.ref h0, .ref h1, .ref hh, .ref sl, .ref sv, .ref tz, .ref az]))], aucW Y h0 ρ γ] eISE G Y := by
  refine x_ofT (by decide) (Nat.le_of_ble_eq_true rfl) (fun p e s m args below meth c A ls Q M hK hZ hw hl htab hlk hQ => ?_)
  obtain ⟨hx, hb, -⟩ := id M
  have hl : lv_has ls 4 [(0, .ref xo), (1, .int k), (2, .int v)] := hl
  have := hI.n6
  refine lv_aload_n hx hb dX5_price_0 rfl (lv_at hl 0 rfl) ?_
  refine x_get M hK hw 0 0 rfl rfl ff_X5_10 rfl dX5_price_1 ?_
  refine lv_iload_n hx hb dX5_price_4 rfl (lv_at hl 1 rfl) ?_
  refine lv_iload_n hx hb dX5_price_5 rfl (lv_at hl 2 rfl) ?_
  refine x_cVI (As := [.int k, .int v]) (k_X1_whyNotPrice l G Y h0 ρ γ k v (hI)) cw_X5_191 [1] 1 0 M hK hZ hw hl.1 rfl (by decide) rfl rfl rfl ⟨by decide, by decide⟩ ⟨Nat.zero_le _, Nat.zero_le _⟩ rfl rfl (Nat.le_of_ble_eq_true rfl) dX5_price_6 (fun r sg h_1 H locs hw => ?_)
  obtain ⟨rfl, rfl⟩ := h_1
  have hw : xW G A s.heap [[(xo, .inr (4, [.ref h0, .ref h1, .ref hh, .ref sl, .ref sv, .ref tz, .ref az]))], aucW Y h0 ρ γ] H locs := hw
  refine x_topN (n := 3) (congrArg nI hwhy) ?_
  exact x_cST (As := [.int (nI 3)]) (t_X5_refuse_3 l hfl G Y ) cw_X5_180 [] M hK hZ hw hl.1 rfl (by decide) ⟨by decide, by decide⟩ ⟨by decide, by decide⟩ rfl rfl (Nat.le_of_ble_eq_true rfl) dX5_price_9 htab hlk hQ
set_option maxHeartbeats 4000000 in
set_option maxRecDepth 20000 in
theorem t_X5_join_2 (l : Launch) (hfl : l.stackTraces = false) (G : va_G) (Y : Nat → Nat) (xo h0 h1 hh sl sv tz az : Nat) (u v : Int32) (ρ : Nat → Nat) (γ : Nat → Nat → Nat) (hI : Inv ρ) (hwhy : whyJoin ρ u.toInt v.toInt = 2) : CtT l yX5_join cX5_join 3 (some .int) 7 102 [.ref xo, .int u, .int v] [[(xo, .inr (4, [.ref h0, .ref h1, .ref hh, .ref sl, .ref sv, .ref tz, .ref az]))], aucW Y h0 ρ γ] eIAE G Y := by
  refine x_ofT (by decide) (Nat.le_of_ble_eq_true rfl) (fun p e s m args below meth c A ls Q M hK hZ hw hl htab hlk hQ => ?_)
  obtain ⟨hx, hb, -⟩ := id M
  have hl : lv_has ls 3 [(0, .ref xo), (1, .int u), (2, .int v)] := hl
  have := hI.n6
  refine lv_aload_n hx hb dX5_join_0 rfl (lv_at hl 0 rfl) ?_
  refine x_get M hK hw 0 0 rfl rfl ff_X5_10 rfl dX5_join_1 ?_
  refine lv_iload_n hx hb dX5_join_4 rfl (lv_at hl 1 rfl) ?_
  refine lv_iload_n hx hb dX5_join_5 rfl (lv_at hl 2 rfl) ?_
  refine x_cVI (As := [.int u, .int v]) (k_X1_whyNotJoin l G Y h0 ρ γ u v (hI)) cw_X5_194 [1] 1 0 M hK hZ hw hl.1 rfl (by decide) rfl rfl rfl ⟨by decide, by decide⟩ ⟨Nat.zero_le _, Nat.zero_le _⟩ rfl rfl (Nat.le_of_ble_eq_true rfl) dX5_join_6 (fun r sg h_1 H locs hw => ?_)
  obtain ⟨rfl, rfl⟩ := h_1
  have hw : xW G A s.heap [[(xo, .inr (4, [.ref h0, .ref h1, .ref hh, .ref sl, .ref sv, .ref tz, .ref az]))], aucW Y h0 ρ γ] H locs := hw
  refine x_topN (n := 2) (congrArg nI hwhy) ?_
  exact x_cST (As := [.int (nI 2)]) (t_X5_refuse_2 l hfl G Y ) cw_X5_180 [] M hK hZ hw hl.1 rfl (by decide) ⟨by decide, by decide⟩ ⟨by decide, by decide⟩ rfl rfl (Nat.le_of_ble_eq_true rfl) dX5_join_9 htab hlk hQ
set_option maxHeartbeats 4000000 in
set_option maxRecDepth 20000 in
theorem t_X5_join_3 (l : Launch) (hfl : l.stackTraces = false) (G : va_G) (Y : Nat → Nat) (xo h0 h1 hh sl sv tz az : Nat) (u v : Int32) (ρ : Nat → Nat) (γ : Nat → Nat → Nat) (hI : Inv ρ) (hwhy : whyJoin ρ u.toInt v.toInt = 3) : CtT l yX5_join cX5_join 3 (some .int) 7 102 [.ref xo, .int u, .int v] [[(xo, .inr (4, [.ref h0, .ref h1, .ref hh, .ref sl, .ref sv, .ref tz, .ref az]))], aucW Y h0 ρ γ] eISE G Y := by
  refine x_ofT (by decide) (Nat.le_of_ble_eq_true rfl) (fun p e s m args below meth c A ls Q M hK hZ hw hl htab hlk hQ => ?_)
  obtain ⟨hx, hb, -⟩ := id M
  have hl : lv_has ls 3 [(0, .ref xo), (1, .int u), (2, .int v)] := hl
  have := hI.n6
  refine lv_aload_n hx hb dX5_join_0 rfl (lv_at hl 0 rfl) ?_
  refine x_get M hK hw 0 0 rfl rfl ff_X5_10 rfl dX5_join_1 ?_
  refine lv_iload_n hx hb dX5_join_4 rfl (lv_at hl 1 rfl) ?_
  refine lv_iload_n hx hb dX5_join_5 rfl (lv_at hl 2 rfl) ?_
  refine x_cVI (As := [.int u, .int v]) (k_X1_whyNotJoin l G Y h0 ρ γ u v (hI)) cw_X5_194 [1] 1 0 M hK hZ hw hl.1 rfl (by decide) rfl rfl rfl ⟨by decide, by decide⟩ ⟨Nat.zero_le _, Nat.zero_le _⟩ rfl rfl (Nat.le_of_ble_eq_true rfl) dX5_join_6 (fun r sg h_1 H locs hw => ?_)
  obtain ⟨rfl, rfl⟩ := h_1
  have hw : xW G A s.heap [[(xo, .inr (4, [.ref h0, .ref h1, .ref hh, .ref sl, .ref sv, .ref tz, .ref az]))], aucW Y h0 ρ γ] H locs := hw
  refine x_topN (n := 3) (congrArg nI hwhy) ?_
  exact x_cST (As := [.int (nI 3)]) (t_X5_refuse_3 l hfl G Y ) cw_X5_180 [] M hK hZ hw hl.1 rfl (by decide) ⟨by decide, by decide⟩ ⟨by decide, by decide⟩ rfl rfl (Nat.le_of_ble_eq_true rfl) dX5_join_9 htab hlk hQ
set_option maxHeartbeats 4000000 in
set_option maxRecDepth 20000 in
theorem t_X5_value_1 (l : Launch) (hfl : l.stackTraces = false) (G : va_G) (Y : Nat → Nat) (xo h0 h1 hh sl sv tz az : Nat) (b k v : Int32) (ρ : Nat → Nat) (γ : Nat → Nat → Nat) (hI : Inv ρ) (hwhy : whyValue ρ b.toInt k.toInt v.toInt = 1) : CtT l yX5_value cX5_value 5 (some .int) 7 102 [.ref xo, .int b, .int k, .int v] [[(xo, .inr (4, [.ref h0, .ref h1, .ref hh, .ref sl, .ref sv, .ref tz, .ref az]))], aucW Y h0 ρ γ] eIOB G Y := by
  refine x_ofT (by decide) (Nat.le_of_ble_eq_true rfl) (fun p e s m args below meth c A ls Q M hK hZ hw hl htab hlk hQ => ?_)
  obtain ⟨hx, hb, -⟩ := id M
  have hl : lv_has ls 5 [(0, .ref xo), (1, .int b), (2, .int k), (3, .int v)] := hl
  have := hI.n6
  refine lv_aload_n hx hb dX5_value_0 rfl (lv_at hl 0 rfl) ?_
  refine x_get M hK hw 0 0 rfl rfl ff_X5_10 rfl dX5_value_1 ?_
  refine lv_iload_n hx hb dX5_value_4 rfl (lv_at hl 1 rfl) ?_
  refine lv_iload_n hx hb dX5_value_5 rfl (lv_at hl 2 rfl) ?_
  refine lv_iload_n hx hb dX5_value_6 rfl (lv_at hl 3 rfl) ?_
  refine x_cVI (As := [.int b, .int k, .int v]) (k_X1_whyNotValue l G Y h0 ρ γ b k v (hI)) cw_X5_201 [1] 1 0 M hK hZ hw hl.1 rfl (by decide) rfl rfl rfl ⟨by decide, by decide⟩ ⟨Nat.zero_le _, Nat.zero_le _⟩ rfl rfl (Nat.le_of_ble_eq_true rfl) dX5_value_7 (fun r sg h_1 H locs hw => ?_)
  obtain ⟨rfl, rfl⟩ := h_1
  have hw : xW G A s.heap [[(xo, .inr (4, [.ref h0, .ref h1, .ref hh, .ref sl, .ref sv, .ref tz, .ref az]))], aucW Y h0 ρ γ] H locs := hw
  refine x_topN (n := 1) (congrArg nI hwhy) ?_
  exact x_cST (As := [.int (nI 1)]) (t_X5_refuse_1 l hfl G Y ) cw_X5_180 [] M hK hZ hw hl.1 rfl (by decide) ⟨by decide, by decide⟩ ⟨by decide, by decide⟩ rfl rfl (Nat.le_of_ble_eq_true rfl) dX5_value_10 htab hlk hQ
set_option maxHeartbeats 4000000 in
set_option maxRecDepth 20000 in
theorem t_X5_value_2 (l : Launch) (hfl : l.stackTraces = false) (G : va_G) (Y : Nat → Nat) (xo h0 h1 hh sl sv tz az : Nat) (b k v : Int32) (ρ : Nat → Nat) (γ : Nat → Nat → Nat) (hI : Inv ρ) (hwhy : whyValue ρ b.toInt k.toInt v.toInt = 2) : CtT l yX5_value cX5_value 5 (some .int) 7 102 [.ref xo, .int b, .int k, .int v] [[(xo, .inr (4, [.ref h0, .ref h1, .ref hh, .ref sl, .ref sv, .ref tz, .ref az]))], aucW Y h0 ρ γ] eIAE G Y := by
  refine x_ofT (by decide) (Nat.le_of_ble_eq_true rfl) (fun p e s m args below meth c A ls Q M hK hZ hw hl htab hlk hQ => ?_)
  obtain ⟨hx, hb, -⟩ := id M
  have hl : lv_has ls 5 [(0, .ref xo), (1, .int b), (2, .int k), (3, .int v)] := hl
  have := hI.n6
  refine lv_aload_n hx hb dX5_value_0 rfl (lv_at hl 0 rfl) ?_
  refine x_get M hK hw 0 0 rfl rfl ff_X5_10 rfl dX5_value_1 ?_
  refine lv_iload_n hx hb dX5_value_4 rfl (lv_at hl 1 rfl) ?_
  refine lv_iload_n hx hb dX5_value_5 rfl (lv_at hl 2 rfl) ?_
  refine lv_iload_n hx hb dX5_value_6 rfl (lv_at hl 3 rfl) ?_
  refine x_cVI (As := [.int b, .int k, .int v]) (k_X1_whyNotValue l G Y h0 ρ γ b k v (hI)) cw_X5_201 [1] 1 0 M hK hZ hw hl.1 rfl (by decide) rfl rfl rfl ⟨by decide, by decide⟩ ⟨Nat.zero_le _, Nat.zero_le _⟩ rfl rfl (Nat.le_of_ble_eq_true rfl) dX5_value_7 (fun r sg h_1 H locs hw => ?_)
  obtain ⟨rfl, rfl⟩ := h_1
  have hw : xW G A s.heap [[(xo, .inr (4, [.ref h0, .ref h1, .ref hh, .ref sl, .ref sv, .ref tz, .ref az]))], aucW Y h0 ρ γ] H locs := hw
  refine x_topN (n := 2) (congrArg nI hwhy) ?_
  exact x_cST (As := [.int (nI 2)]) (t_X5_refuse_2 l hfl G Y ) cw_X5_180 [] M hK hZ hw hl.1 rfl (by decide) ⟨by decide, by decide⟩ ⟨by decide, by decide⟩ rfl rfl (Nat.le_of_ble_eq_true rfl) dX5_value_10 htab hlk hQ
set_option maxHeartbeats 4000000 in
set_option maxRecDepth 20000 in
theorem t_X5_ask_1 (l : Launch) (hfl : l.stackTraces = false) (G : va_G) (Y : Nat → Nat) (xo h0 h1 hh sl sv tz az : Nat) (b k n : Int32) (ρ : Nat → Nat) (γ : Nat → Nat → Nat) (hI : Inv ρ) (hwhy : whyAsk ρ b.toInt k.toInt n.toInt = 1) : CtT l yX5_ask cX5_ask 4 (some .int) 7 102 [.ref xo, .int b, .int k, .int n] [[(xo, .inr (4, [.ref h0, .ref h1, .ref hh, .ref sl, .ref sv, .ref tz, .ref az]))], aucW Y h0 ρ γ] eIOB G Y := by
  refine x_ofT (by decide) (Nat.le_of_ble_eq_true rfl) (fun p e s m args below meth c A ls Q M hK hZ hw hl htab hlk hQ => ?_)
  obtain ⟨hx, hb, -⟩ := id M
  have hl : lv_has ls 4 [(0, .ref xo), (1, .int b), (2, .int k), (3, .int n)] := hl
  have := hI.n6
  refine lv_aload_n hx hb dX5_ask_0 rfl (lv_at hl 0 rfl) ?_
  refine x_get M hK hw 0 0 rfl rfl ff_X5_10 rfl dX5_ask_1 ?_
  refine lv_iload_n hx hb dX5_ask_4 rfl (lv_at hl 1 rfl) ?_
  refine lv_iload_n hx hb dX5_ask_5 rfl (lv_at hl 2 rfl) ?_
  refine lv_iload_n hx hb dX5_ask_6 rfl (lv_at hl 3 rfl) ?_
  refine x_cVI (As := [.int b, .int k, .int n]) (k_X1_whyNotAsk l G Y h0 ρ γ b k n (hI)) cw_X5_207 [1] 1 0 M hK hZ hw hl.1 rfl (by decide) rfl rfl rfl ⟨by decide, by decide⟩ ⟨Nat.zero_le _, Nat.zero_le _⟩ rfl rfl (Nat.le_of_ble_eq_true rfl) dX5_ask_7 (fun r sg h_1 H locs hw => ?_)
  obtain ⟨rfl, rfl⟩ := h_1
  have hw : xW G A s.heap [[(xo, .inr (4, [.ref h0, .ref h1, .ref hh, .ref sl, .ref sv, .ref tz, .ref az]))], aucW Y h0 ρ γ] H locs := hw
  refine x_topN (n := 1) (congrArg nI hwhy) ?_
  exact x_cST (As := [.int (nI 1)]) (t_X5_refuse_1 l hfl G Y ) cw_X5_180 [] M hK hZ hw hl.1 rfl (by decide) ⟨by decide, by decide⟩ ⟨by decide, by decide⟩ rfl rfl (Nat.le_of_ble_eq_true rfl) dX5_ask_10 htab hlk hQ
set_option maxHeartbeats 4000000 in
set_option maxRecDepth 20000 in
theorem t_X5_ask_2 (l : Launch) (hfl : l.stackTraces = false) (G : va_G) (Y : Nat → Nat) (xo h0 h1 hh sl sv tz az : Nat) (b k n : Int32) (ρ : Nat → Nat) (γ : Nat → Nat → Nat) (hI : Inv ρ) (hwhy : whyAsk ρ b.toInt k.toInt n.toInt = 2) : CtT l yX5_ask cX5_ask 4 (some .int) 7 102 [.ref xo, .int b, .int k, .int n] [[(xo, .inr (4, [.ref h0, .ref h1, .ref hh, .ref sl, .ref sv, .ref tz, .ref az]))], aucW Y h0 ρ γ] eIAE G Y := by
  refine x_ofT (by decide) (Nat.le_of_ble_eq_true rfl) (fun p e s m args below meth c A ls Q M hK hZ hw hl htab hlk hQ => ?_)
  obtain ⟨hx, hb, -⟩ := id M
  have hl : lv_has ls 4 [(0, .ref xo), (1, .int b), (2, .int k), (3, .int n)] := hl
  have := hI.n6
  refine lv_aload_n hx hb dX5_ask_0 rfl (lv_at hl 0 rfl) ?_
  refine x_get M hK hw 0 0 rfl rfl ff_X5_10 rfl dX5_ask_1 ?_
  refine lv_iload_n hx hb dX5_ask_4 rfl (lv_at hl 1 rfl) ?_
  refine lv_iload_n hx hb dX5_ask_5 rfl (lv_at hl 2 rfl) ?_
  refine lv_iload_n hx hb dX5_ask_6 rfl (lv_at hl 3 rfl) ?_
  refine x_cVI (As := [.int b, .int k, .int n]) (k_X1_whyNotAsk l G Y h0 ρ γ b k n (hI)) cw_X5_207 [1] 1 0 M hK hZ hw hl.1 rfl (by decide) rfl rfl rfl ⟨by decide, by decide⟩ ⟨Nat.zero_le _, Nat.zero_le _⟩ rfl rfl (Nat.le_of_ble_eq_true rfl) dX5_ask_7 (fun r sg h_1 H locs hw => ?_)
  obtain ⟨rfl, rfl⟩ := h_1
  have hw : xW G A s.heap [[(xo, .inr (4, [.ref h0, .ref h1, .ref hh, .ref sl, .ref sv, .ref tz, .ref az]))], aucW Y h0 ρ γ] H locs := hw
  refine x_topN (n := 2) (congrArg nI hwhy) ?_
  exact x_cST (As := [.int (nI 2)]) (t_X5_refuse_2 l hfl G Y ) cw_X5_180 [] M hK hZ hw hl.1 rfl (by decide) ⟨by decide, by decide⟩ ⟨by decide, by decide⟩ rfl rfl (Nat.le_of_ble_eq_true rfl) dX5_ask_10 htab hlk hQ
set_option maxHeartbeats 4000000 in
set_option maxRecDepth 20000 in
theorem t_X5_ask_3 (l : Launch) (hfl : l.stackTraces = false) (G : va_G) (Y : Nat → Nat) (xo h0 h1 hh sl sv tz az : Nat) (b k n : Int32) (ρ : Nat → Nat) (γ : Nat → Nat → Nat) (hI : Inv ρ) (hwhy : whyAsk ρ b.toInt k.toInt n.toInt = 3) : CtT l yX5_ask cX5_ask 4 (some .int) 7 102 [.ref xo, .int b, .int k, .int n] [[(xo, .inr (4, [.ref h0, .ref h1, .ref hh, .ref sl, .ref sv, .ref tz, .ref az]))], aucW Y h0 ρ γ] eISE G Y := by
  refine x_ofT (by decide) (Nat.le_of_ble_eq_true rfl) (fun p e s m args below meth c A ls Q M hK hZ hw hl htab hlk hQ => ?_)
  obtain ⟨hx, hb, -⟩ := id M
  have hl : lv_has ls 4 [(0, .ref xo), (1, .int b), (2, .int k), (3, .int n)] := hl
  have := hI.n6
  refine lv_aload_n hx hb dX5_ask_0 rfl (lv_at hl 0 rfl) ?_
  refine x_get M hK hw 0 0 rfl rfl ff_X5_10 rfl dX5_ask_1 ?_
  refine lv_iload_n hx hb dX5_ask_4 rfl (lv_at hl 1 rfl) ?_
  refine lv_iload_n hx hb dX5_ask_5 rfl (lv_at hl 2 rfl) ?_
  refine lv_iload_n hx hb dX5_ask_6 rfl (lv_at hl 3 rfl) ?_
  refine x_cVI (As := [.int b, .int k, .int n]) (k_X1_whyNotAsk l G Y h0 ρ γ b k n (hI)) cw_X5_207 [1] 1 0 M hK hZ hw hl.1 rfl (by decide) rfl rfl rfl ⟨by decide, by decide⟩ ⟨Nat.zero_le _, Nat.zero_le _⟩ rfl rfl (Nat.le_of_ble_eq_true rfl) dX5_ask_7 (fun r sg h_1 H locs hw => ?_)
  obtain ⟨rfl, rfl⟩ := h_1
  have hw : xW G A s.heap [[(xo, .inr (4, [.ref h0, .ref h1, .ref hh, .ref sl, .ref sv, .ref tz, .ref az]))], aucW Y h0 ρ γ] H locs := hw
  refine x_topN (n := 3) (congrArg nI hwhy) ?_
  exact x_cST (As := [.int (nI 3)]) (t_X5_refuse_3 l hfl G Y ) cw_X5_180 [] M hK hZ hw hl.1 rfl (by decide) ⟨by decide, by decide⟩ ⟨by decide, by decide⟩ rfl rfl (Nat.le_of_ble_eq_true rfl) dX5_ask_10 htab hlk hQ
set_option maxHeartbeats 4000000 in
set_option maxRecDepth 20000 in
theorem t_X5_bid_1 (l : Launch) (hfl : l.stackTraces = false) (G : va_G) (Y : Nat → Nat) (xo h0 h1 hh sl sv tz az : Nat) (b : Int32) (ρ : Nat → Nat) (γ : Nat → Nat → Nat) (hI : Inv ρ) (hwhy : whyBid ρ b.toInt = 1) : CtT l yX5_bid cX5_bid 2 (some .int) 7 102 [.ref xo, .int b] [[(xo, .inr (4, [.ref h0, .ref h1, .ref hh, .ref sl, .ref sv, .ref tz, .ref az]))], aucW Y h0 ρ γ] eIOB G Y := by
  refine x_ofT (by decide) (Nat.le_of_ble_eq_true rfl) (fun p e s m args below meth c A ls Q M hK hZ hw hl htab hlk hQ => ?_)
  obtain ⟨hx, hb, -⟩ := id M
  have hl : lv_has ls 2 [(0, .ref xo), (1, .int b)] := hl
  have := hI.n6
  refine lv_aload_n hx hb dX5_bid_0 rfl (lv_at hl 0 rfl) ?_
  refine x_get M hK hw 0 0 rfl rfl ff_X5_10 rfl dX5_bid_1 ?_
  refine lv_iload_n hx hb dX5_bid_4 rfl (lv_at hl 1 rfl) ?_
  refine x_cVI (As := [.int b]) (k_X1_whyNotBid l G Y h0 ρ γ b (hI)) cw_X5_210 [1] 1 0 M hK hZ hw hl.1 rfl (by decide) rfl rfl rfl ⟨by decide, by decide⟩ ⟨Nat.zero_le _, Nat.zero_le _⟩ rfl rfl (Nat.le_of_ble_eq_true rfl) dX5_bid_5 (fun r sg h_1 H locs hw => ?_)
  obtain ⟨rfl, rfl⟩ := h_1
  have hw : xW G A s.heap [[(xo, .inr (4, [.ref h0, .ref h1, .ref hh, .ref sl, .ref sv, .ref tz, .ref az]))], aucW Y h0 ρ γ] H locs := hw
  refine x_topN (n := 1) (congrArg nI hwhy) ?_
  exact x_cST (As := [.int (nI 1)]) (t_X5_refuse_1 l hfl G Y ) cw_X5_180 [] M hK hZ hw hl.1 rfl (by decide) ⟨by decide, by decide⟩ ⟨by decide, by decide⟩ rfl rfl (Nat.le_of_ble_eq_true rfl) dX5_bid_8 htab hlk hQ
set_option maxHeartbeats 4000000 in
set_option maxRecDepth 20000 in
theorem t_X5_bid_3 (l : Launch) (hfl : l.stackTraces = false) (G : va_G) (Y : Nat → Nat) (xo h0 h1 hh sl sv tz az : Nat) (b : Int32) (ρ : Nat → Nat) (γ : Nat → Nat → Nat) (hI : Inv ρ) (hwhy : whyBid ρ b.toInt = 3) : CtT l yX5_bid cX5_bid 2 (some .int) 7 102 [.ref xo, .int b] [[(xo, .inr (4, [.ref h0, .ref h1, .ref hh, .ref sl, .ref sv, .ref tz, .ref az]))], aucW Y h0 ρ γ] eISE G Y := by
  refine x_ofT (by decide) (Nat.le_of_ble_eq_true rfl) (fun p e s m args below meth c A ls Q M hK hZ hw hl htab hlk hQ => ?_)
  obtain ⟨hx, hb, -⟩ := id M
  have hl : lv_has ls 2 [(0, .ref xo), (1, .int b)] := hl
  have := hI.n6
  refine lv_aload_n hx hb dX5_bid_0 rfl (lv_at hl 0 rfl) ?_
  refine x_get M hK hw 0 0 rfl rfl ff_X5_10 rfl dX5_bid_1 ?_
  refine lv_iload_n hx hb dX5_bid_4 rfl (lv_at hl 1 rfl) ?_
  refine x_cVI (As := [.int b]) (k_X1_whyNotBid l G Y h0 ρ γ b (hI)) cw_X5_210 [1] 1 0 M hK hZ hw hl.1 rfl (by decide) rfl rfl rfl ⟨by decide, by decide⟩ ⟨Nat.zero_le _, Nat.zero_le _⟩ rfl rfl (Nat.le_of_ble_eq_true rfl) dX5_bid_5 (fun r sg h_1 H locs hw => ?_)
  obtain ⟨rfl, rfl⟩ := h_1
  have hw : xW G A s.heap [[(xo, .inr (4, [.ref h0, .ref h1, .ref hh, .ref sl, .ref sv, .ref tz, .ref az]))], aucW Y h0 ρ γ] H locs := hw
  refine x_topN (n := 3) (congrArg nI hwhy) ?_
  exact x_cST (As := [.int (nI 3)]) (t_X5_refuse_3 l hfl G Y ) cw_X5_180 [] M hK hZ hw hl.1 rfl (by decide) ⟨by decide, by decide⟩ ⟨by decide, by decide⟩ rfl rfl (Nat.le_of_ble_eq_true rfl) dX5_bid_8 htab hlk hQ
set_option maxHeartbeats 4000000 in
set_option maxRecDepth 20000 in
theorem t_X5_close_3 (l : Launch) (hfl : l.stackTraces = false) (G : va_G) (Y : Nat → Nat) (xo h0 h1 hh sl sv tz az : Nat) (ρ : Nat → Nat) (γ : Nat → Nat → Nat) (hI : Inv ρ) (hwhy : whyClose ρ = 3) : CtT l yX5_close cX5_close 1 (some .int) 7 102 [.ref xo] [[(xo, .inr (4, [.ref h0, .ref h1, .ref hh, .ref sl, .ref sv, .ref tz, .ref az]))], aucW Y h0 ρ γ] eISE G Y := by
  refine x_ofT (by decide) (Nat.le_of_ble_eq_true rfl) (fun p e s m args below meth c A ls Q M hK hZ hw hl htab hlk hQ => ?_)
  obtain ⟨hx, hb, -⟩ := id M
  have hl : lv_has ls 1 [(0, .ref xo)] := hl
  have := hI.n6
  refine lv_aload_n hx hb dX5_close_0 rfl (lv_at hl 0 rfl) ?_
  refine x_get M hK hw 0 0 rfl rfl ff_X5_10 rfl dX5_close_1 ?_
  refine x_cVI (As := []) (k_X1_whyNotClose l G Y h0 ρ γ (hI)) cw_X5_216 [1] 1 0 M hK hZ hw hl.1 rfl (by decide) rfl rfl rfl ⟨by decide, by decide⟩ ⟨Nat.zero_le _, Nat.zero_le _⟩ rfl rfl (Nat.le_of_ble_eq_true rfl) dX5_close_4 (fun r sg h_1 H locs hw => ?_)
  obtain ⟨rfl, rfl⟩ := h_1
  have hw : xW G A s.heap [[(xo, .inr (4, [.ref h0, .ref h1, .ref hh, .ref sl, .ref sv, .ref tz, .ref az]))], aucW Y h0 ρ γ] H locs := hw
  refine x_topN (n := 3) (congrArg nI hwhy) ?_
  exact x_cST (As := [.int (nI 3)]) (t_X5_refuse_3 l hfl G Y ) cw_X5_180 [] M hK hZ hw hl.1 rfl (by decide) ⟨by decide, by decide⟩ ⟨by decide, by decide⟩ rfl rfl (Nat.le_of_ble_eq_true rfl) dX5_close_7 htab hlk hQ
set_option maxHeartbeats 4000000 in
set_option maxRecDepth 20000 in
theorem t_X5_add_1 (l : Launch) (hfl : l.stackTraces = false) (G : va_G) (Y : Nat → Nat) (xo h0 h1 hh sl sv tz az : Nat) (b x y z v : Int32) (ρ : Nat → Nat) (γ : Nat → Nat → Nat) (hI : Inv ρ) (hwhy : whyAdd ρ b.toInt x.toInt y.toInt z.toInt v.toInt = 1) : CtT l yX5_add cX5_add 6 (some .int) 7 102 [.ref xo, .int b, .int x, .int y, .int z, .int v] [[(xo, .inr (4, [.ref h0, .ref h1, .ref hh, .ref sl, .ref sv, .ref tz, .ref az]))], aucW Y h0 ρ γ] eIOB G Y := by
  refine x_ofT (by decide) (Nat.le_of_ble_eq_true rfl) (fun p e s m args below meth c A ls Q M hK hZ hw hl htab hlk hQ => ?_)
  obtain ⟨hx, hb, -⟩ := id M
  have hl : lv_has ls 6 [(0, .ref xo), (1, .int b), (2, .int x), (3, .int y), (4, .int z), (5, .int v)] := hl
  have := hI.n6
  refine lv_aload_n hx hb dX5_add_0 rfl (lv_at hl 0 rfl) ?_
  refine x_get M hK hw 0 0 rfl rfl ff_X5_10 rfl dX5_add_1 ?_
  refine lv_iload_n hx hb dX5_add_4 rfl (lv_at hl 1 rfl) ?_
  refine lv_iload_n hx hb dX5_add_5 rfl (lv_at hl 2 rfl) ?_
  refine lv_iload_n hx hb dX5_add_6 rfl (lv_at hl 3 rfl) ?_
  refine lv_iload hx hb dX5_add_7 (lv_at hl 4 rfl) ?_
  refine lv_iload hx hb dX5_add_9 (lv_at hl 5 rfl) ?_
  refine x_cVI (As := [.int b, .int x, .int y, .int z, .int v]) (k_X1_whyNotAdd l G Y h0 ρ γ b x y z v (hI)) cw_X5_222 [1] 1 0 M hK hZ hw hl.1 rfl (by decide) rfl rfl rfl ⟨by decide, by decide⟩ ⟨Nat.zero_le _, Nat.zero_le _⟩ rfl rfl (Nat.le_of_ble_eq_true rfl) dX5_add_11 (fun r sg h_1 H locs hw => ?_)
  obtain ⟨rfl, rfl⟩ := h_1
  have hw : xW G A s.heap [[(xo, .inr (4, [.ref h0, .ref h1, .ref hh, .ref sl, .ref sv, .ref tz, .ref az]))], aucW Y h0 ρ γ] H locs := hw
  refine x_topN (n := 1) (congrArg nI hwhy) ?_
  exact x_cST (As := [.int (nI 1)]) (t_X5_refuse_1 l hfl G Y ) cw_X5_180 [] M hK hZ hw hl.1 rfl (by decide) ⟨by decide, by decide⟩ ⟨by decide, by decide⟩ rfl rfl (Nat.le_of_ble_eq_true rfl) dX5_add_14 htab hlk hQ
set_option maxHeartbeats 4000000 in
set_option maxRecDepth 20000 in
theorem t_X5_add_2 (l : Launch) (hfl : l.stackTraces = false) (G : va_G) (Y : Nat → Nat) (xo h0 h1 hh sl sv tz az : Nat) (b x y z v : Int32) (ρ : Nat → Nat) (γ : Nat → Nat → Nat) (hI : Inv ρ) (hwhy : whyAdd ρ b.toInt x.toInt y.toInt z.toInt v.toInt = 2) : CtT l yX5_add cX5_add 6 (some .int) 7 102 [.ref xo, .int b, .int x, .int y, .int z, .int v] [[(xo, .inr (4, [.ref h0, .ref h1, .ref hh, .ref sl, .ref sv, .ref tz, .ref az]))], aucW Y h0 ρ γ] eIAE G Y := by
  refine x_ofT (by decide) (Nat.le_of_ble_eq_true rfl) (fun p e s m args below meth c A ls Q M hK hZ hw hl htab hlk hQ => ?_)
  obtain ⟨hx, hb, -⟩ := id M
  have hl : lv_has ls 6 [(0, .ref xo), (1, .int b), (2, .int x), (3, .int y), (4, .int z), (5, .int v)] := hl
  have := hI.n6
  refine lv_aload_n hx hb dX5_add_0 rfl (lv_at hl 0 rfl) ?_
  refine x_get M hK hw 0 0 rfl rfl ff_X5_10 rfl dX5_add_1 ?_
  refine lv_iload_n hx hb dX5_add_4 rfl (lv_at hl 1 rfl) ?_
  refine lv_iload_n hx hb dX5_add_5 rfl (lv_at hl 2 rfl) ?_
  refine lv_iload_n hx hb dX5_add_6 rfl (lv_at hl 3 rfl) ?_
  refine lv_iload hx hb dX5_add_7 (lv_at hl 4 rfl) ?_
  refine lv_iload hx hb dX5_add_9 (lv_at hl 5 rfl) ?_
  refine x_cVI (As := [.int b, .int x, .int y, .int z, .int v]) (k_X1_whyNotAdd l G Y h0 ρ γ b x y z v (hI)) cw_X5_222 [1] 1 0 M hK hZ hw hl.1 rfl (by decide) rfl rfl rfl ⟨by decide, by decide⟩ ⟨Nat.zero_le _, Nat.zero_le _⟩ rfl rfl (Nat.le_of_ble_eq_true rfl) dX5_add_11 (fun r sg h_1 H locs hw => ?_)
  obtain ⟨rfl, rfl⟩ := h_1
  have hw : xW G A s.heap [[(xo, .inr (4, [.ref h0, .ref h1, .ref hh, .ref sl, .ref sv, .ref tz, .ref az]))], aucW Y h0 ρ γ] H locs := hw
  refine x_topN (n := 2) (congrArg nI hwhy) ?_
  exact x_cST (As := [.int (nI 2)]) (t_X5_refuse_2 l hfl G Y ) cw_X5_180 [] M hK hZ hw hl.1 rfl (by decide) ⟨by decide, by decide⟩ ⟨by decide, by decide⟩ rfl rfl (Nat.le_of_ble_eq_true rfl) dX5_add_14 htab hlk hQ
set_option maxHeartbeats 4000000 in
set_option maxRecDepth 20000 in
theorem t_X5_add_3 (l : Launch) (hfl : l.stackTraces = false) (G : va_G) (Y : Nat → Nat) (xo h0 h1 hh sl sv tz az : Nat) (b x y z v : Int32) (ρ : Nat → Nat) (γ : Nat → Nat → Nat) (hI : Inv ρ) (hwhy : whyAdd ρ b.toInt x.toInt y.toInt z.toInt v.toInt = 3) : CtT l yX5_add cX5_add 6 (some .int) 7 102 [.ref xo, .int b, .int x, .int y, .int z, .int v] [[(xo, .inr (4, [.ref h0, .ref h1, .ref hh, .ref sl, .ref sv, .ref tz, .ref az]))], aucW Y h0 ρ γ] eISE G Y := by
  refine x_ofT (by decide) (Nat.le_of_ble_eq_true rfl) (fun p e s m args below meth c A ls Q M hK hZ hw hl htab hlk hQ => ?_)
  obtain ⟨hx, hb, -⟩ := id M
  have hl : lv_has ls 6 [(0, .ref xo), (1, .int b), (2, .int x), (3, .int y), (4, .int z), (5, .int v)] := hl
  have := hI.n6
  refine lv_aload_n hx hb dX5_add_0 rfl (lv_at hl 0 rfl) ?_
  refine x_get M hK hw 0 0 rfl rfl ff_X5_10 rfl dX5_add_1 ?_
  refine lv_iload_n hx hb dX5_add_4 rfl (lv_at hl 1 rfl) ?_
  refine lv_iload_n hx hb dX5_add_5 rfl (lv_at hl 2 rfl) ?_
  refine lv_iload_n hx hb dX5_add_6 rfl (lv_at hl 3 rfl) ?_
  refine lv_iload hx hb dX5_add_7 (lv_at hl 4 rfl) ?_
  refine lv_iload hx hb dX5_add_9 (lv_at hl 5 rfl) ?_
  refine x_cVI (As := [.int b, .int x, .int y, .int z, .int v]) (k_X1_whyNotAdd l G Y h0 ρ γ b x y z v (hI)) cw_X5_222 [1] 1 0 M hK hZ hw hl.1 rfl (by decide) rfl rfl rfl ⟨by decide, by decide⟩ ⟨Nat.zero_le _, Nat.zero_le _⟩ rfl rfl (Nat.le_of_ble_eq_true rfl) dX5_add_11 (fun r sg h_1 H locs hw => ?_)
  obtain ⟨rfl, rfl⟩ := h_1
  have hw : xW G A s.heap [[(xo, .inr (4, [.ref h0, .ref h1, .ref hh, .ref sl, .ref sv, .ref tz, .ref az]))], aucW Y h0 ρ γ] H locs := hw
  refine x_topN (n := 3) (congrArg nI hwhy) ?_
  exact x_cST (As := [.int (nI 3)]) (t_X5_refuse_3 l hfl G Y ) cw_X5_180 [] M hK hZ hw hl.1 rfl (by decide) ⟨by decide, by decide⟩ ⟨by decide, by decide⟩ rfl rfl (Nat.le_of_ble_eq_true rfl) dX5_add_14 htab hlk hQ
set_option maxHeartbeats 4000000 in
set_option maxRecDepth 20000 in
theorem t_X5_drop_1 (l : Launch) (hfl : l.stackTraces = false) (G : va_G) (Y : Nat → Nat) (xo h0 h1 hh sl sv tz az : Nat) (b i : Int32) (ρ : Nat → Nat) (γ : Nat → Nat → Nat) (hI : Inv ρ) (hwhy : whyDrop ρ b.toInt i.toInt = 1) : CtT l yX5_drop cX5_drop 3 (some .int) 7 102 [.ref xo, .int b, .int i] [[(xo, .inr (4, [.ref h0, .ref h1, .ref hh, .ref sl, .ref sv, .ref tz, .ref az]))], aucW Y h0 ρ γ] eIOB G Y := by
  refine x_ofT (by decide) (Nat.le_of_ble_eq_true rfl) (fun p e s m args below meth c A ls Q M hK hZ hw hl htab hlk hQ => ?_)
  obtain ⟨hx, hb, -⟩ := id M
  have hl : lv_has ls 3 [(0, .ref xo), (1, .int b), (2, .int i)] := hl
  have := hI.n6
  refine lv_aload_n hx hb dX5_drop_0 rfl (lv_at hl 0 rfl) ?_
  refine x_get M hK hw 0 0 rfl rfl ff_X5_10 rfl dX5_drop_1 ?_
  refine lv_iload_n hx hb dX5_drop_4 rfl (lv_at hl 1 rfl) ?_
  refine lv_iload_n hx hb dX5_drop_5 rfl (lv_at hl 2 rfl) ?_
  refine x_cVI (As := [.int b, .int i]) (k_X1_whyNotDrop l G Y h0 ρ γ b i (hI)) cw_X5_230 [1] 1 0 M hK hZ hw hl.1 rfl (by decide) rfl rfl rfl ⟨by decide, by decide⟩ ⟨Nat.zero_le _, Nat.zero_le _⟩ rfl rfl (Nat.le_of_ble_eq_true rfl) dX5_drop_6 (fun r sg h_1 H locs hw => ?_)
  obtain ⟨rfl, rfl⟩ := h_1
  have hw : xW G A s.heap [[(xo, .inr (4, [.ref h0, .ref h1, .ref hh, .ref sl, .ref sv, .ref tz, .ref az]))], aucW Y h0 ρ γ] H locs := hw
  refine x_topN (n := 1) (congrArg nI hwhy) ?_
  exact x_cST (As := [.int (nI 1)]) (t_X5_refuse_1 l hfl G Y ) cw_X5_180 [] M hK hZ hw hl.1 rfl (by decide) ⟨by decide, by decide⟩ ⟨by decide, by decide⟩ rfl rfl (Nat.le_of_ble_eq_true rfl) dX5_drop_9 htab hlk hQ
set_option maxHeartbeats 4000000 in
set_option maxRecDepth 20000 in
theorem t_X5_set_2 (l : Launch) (hfl : l.stackTraces = false) (G : va_G) (Y : Nat → Nat) (xo h0 h1 hh sl sv tz az : Nat) (w v : Int32) (ρ : Nat → Nat) (γ : Nat → Nat → Nat) (hI : Inv ρ) (hwhy : whySet w.toInt v.toInt = 2) : CtT l yX5_set cX5_set 4 (some .int) 7 102 [.ref xo, .int w, .int v] [[(xo, .inr (4, [.ref h0, .ref h1, .ref hh, .ref sl, .ref sv, .ref tz, .ref az]))], aucW Y h0 ρ γ] eIAE G Y := by
  refine x_ofT (by decide) (Nat.le_of_ble_eq_true rfl) (fun p e s m args below meth c A ls Q M hK hZ hw hl htab hlk hQ => ?_)
  obtain ⟨hx, hb, -⟩ := id M
  have hl : lv_has ls 4 [(0, .ref xo), (1, .int w), (2, .int v)] := hl
  have := hI.n6
  refine lv_aload_n hx hb dX5_set_0 rfl (lv_at hl 0 rfl) ?_
  refine x_get M hK hw 0 0 rfl rfl ff_X5_10 rfl dX5_set_1 ?_
  refine lv_iload_n hx hb dX5_set_4 rfl (lv_at hl 1 rfl) ?_
  refine lv_iload_n hx hb dX5_set_5 rfl (lv_at hl 2 rfl) ?_
  refine x_cVI (As := [.int w, .int v]) (k_X1_whyNotSet l G Y h0 ρ γ w v (hI)) cw_X5_236 [1] 1 0 M hK hZ hw hl.1 rfl (by decide) rfl rfl rfl ⟨by decide, by decide⟩ ⟨Nat.zero_le _, Nat.zero_le _⟩ rfl rfl (Nat.le_of_ble_eq_true rfl) dX5_set_6 (fun r sg h_1 H locs hw => ?_)
  obtain ⟨rfl, rfl⟩ := h_1
  have hw : xW G A s.heap [[(xo, .inr (4, [.ref h0, .ref h1, .ref hh, .ref sl, .ref sv, .ref tz, .ref az]))], aucW Y h0 ρ γ] H locs := hw
  refine x_topN (n := 2) (congrArg nI hwhy) ?_
  exact x_cST (As := [.int (nI 2)]) (t_X5_refuse_2 l hfl G Y ) cw_X5_180 [] M hK hZ hw hl.1 rfl (by decide) ⟨by decide, by decide⟩ ⟨by decide, by decide⟩ rfl rfl (Nat.le_of_ble_eq_true rfl) dX5_set_9 htab hlk hQ
