set_option maxHeartbeats 4000000 in
set_option maxRecDepth 20000 in
theorem k_X1_changeOffer (l : Launch) (G : va_G) (Y : Nat → Nat) (h k u v : Nat) (ρ : Nat → Nat) (γ : Nat → Nat → Nat) (hI : Inv ρ) (hk : k < 3) : CtV l yX1_changeOffer cX1_changeOffer 4 0 0 [.ref h, .int (nI k), .int (nI u), .int (nI v)] [aucW Y h ρ γ] (fun sg => ∃ γ' : Nat → Nat → Nat, sg = [aucW Y h (mOffer ρ k u v) γ']) G Y := by
  refine x_ofV (by decide) (Nat.le_of_ble_eq_true rfl) (fun p e s m args below meth c A ls Q M hK hZ hw hl hret => ?_)
  obtain ⟨hx, hb, -⟩ := id M
  have hl : lv_has ls 4 [(0, .ref h), (1, .int (nI k)), (2, .int (nI u)), (3, .int (nI v))] := hl
  have := hI.n6
  have := hI.over
  have := hI.keep
  have := hI.stepp
  refine lv_aload_n hx hb dX1_changeOffer_0 rfl (lv_at hl 0 rfl) ?_
  refine x_get M hK hw 0 0 rfl rfl ff_X1_9 rfl dX1_changeOffer_1 ?_
  refine lv_iload_n hx hb dX1_changeOffer_4 rfl (lv_at hl 1 rfl) ?_
  refine lv_iload_n hx hb dX1_changeOffer_5 rfl (lv_at hl 2 rfl) ?_
  refine x_iast M hK hw 0 1 rfl rfl (by omega) (by decide) dX1_changeOffer_6 (fun H locs hw => ?_)
  rw [upd_row] at hw
  have hw : xW G A s.heap [aucR Y h (setN (supF ρ) k u) (ptsF ρ) (priF ρ) (rgtF ρ γ) (capF ρ γ) (pckF ρ γ) (valF ρ γ) (demF ρ γ) (lotF ρ γ) (worF ρ γ) (ρ 4) (ρ 0) (ρ 1) (ρ 2) (ρ 3)] H locs := hw
  refine lv_aload_n hx hb dX1_changeOffer_7 rfl (lv_at hl 0 rfl) ?_
  refine x_get M hK hw 0 0 rfl rfl ff_X1_15 rfl dX1_changeOffer_8 ?_
  refine lv_iload_n hx hb dX1_changeOffer_11 rfl (lv_at hl 1 rfl) ?_
  refine lv_iload_n hx hb dX1_changeOffer_12 rfl (lv_at hl 3 rfl) ?_
  refine x_iast M hK hw 0 2 rfl rfl (by omega) (by decide) dX1_changeOffer_13 (fun H locs hw => ?_)
  rw [upd_row] at hw
  have hw : xW G A s.heap [aucR Y h (setN (supF ρ) k u) (setN (ptsF ρ) k v) (priF ρ) (rgtF ρ γ) (capF ρ γ) (pckF ρ γ) (valF ρ γ) (demF ρ γ) (lotF ρ γ) (worF ρ γ) (ρ 4) (ρ 0) (ρ 1) (ρ 2) (ρ 3)] H locs := hw
  have hN1 : (mOffer ρ k u v) 4 = ρ 4 := by clear hret hw hl M hK hZ hx hb; simp only [mOffer, setN, if_true, if_false, reduceIte] <;> (repeat' split) <;> first | rfl | (exfalso; omega) | omega
  obtain ⟨γ2, hw⟩ := auc_fold (i := 0) (ρ' := mOffer ρ k u v) hw rfl hN1.symm (by clear hret hw hl M hK hZ hx hb; simp only [mOffer, setN, if_true, if_false, reduceIte] <;> (repeat' split) <;> first | rfl | (exfalso; omega) | omega) (by clear hret hw hl M hK hZ hx hb; simp only [mOffer, setN, if_true, if_false, reduceIte] <;> (repeat' split) <;> first | rfl | (exfalso; omega) | omega) (by clear hret hw hl M hK hZ hx hb; simp only [mOffer, setN, if_true, if_false, reduceIte] <;> (repeat' split) <;> first | rfl | (exfalso; omega) | omega) (by clear hret hw hl M hK hZ hx hb; simp only [mOffer, setN, if_true, if_false, reduceIte] <;> (repeat' split) <;> first | rfl | (exfalso; omega) | omega) (by clear hret hw hl M hK hZ hx hb; intro k9 hk9; (try simp only [mOffer, setN, if_true, if_false, reduceIte, supF]) <;> (repeat' split) <;> first | rfl | (exfalso; omega) | omega) (by clear hret hw hl M hK hZ hx hb; intro k9 hk9; (try simp only [mOffer, setN, if_true, if_false, reduceIte, ptsF]) <;> (repeat' split) <;> first | rfl | (exfalso; omega) | omega) (by clear hret hw hl M hK hZ hx hb; intro k9 hk9; (try simp only [mOffer, setN, if_true, if_false, reduceIte, priF]) <;> (repeat' split) <;> first | rfl | (exfalso; omega) | omega) (by clear hret hw hl M hK hZ hx hb; intro b9 hb1; rw [hN1] at hb1; (try simp only [mOffer, setN, if_true, if_false, reduceIte]) <;> (repeat' split) <;> first | rfl | (exfalso; omega) | exact rgt_at (by omega) rfl rfl | omega) (by clear hret hw hl M hK hZ hx hb; intro b9 hb1; rw [hN1] at hb1; (try simp only [mOffer, setN, if_true, if_false, reduceIte]) <;> (repeat' split) <;> first | rfl | (exfalso; omega) | exact cap_at (by omega) rfl rfl | omega) (by clear hret hw hl M hK hZ hx hb; intro b9 hb1; rw [hN1] at hb1; (try simp only [mOffer, setN, if_true, if_false, reduceIte]) <;> (repeat' split) <;> first | rfl | (exfalso; omega) | exact pck_at (by omega) rfl rfl | omega) (by clear hret hw hl M hK hZ hx hb; intro b9 k9 hb1 hk9; rw [hN1] at hb1; (try simp only [mOffer, setN, if_true, if_false, reduceIte]) <;> (repeat' split) <;> first | rfl | (exfalso; omega) | exact val_at (by omega) (by omega) rfl rfl | omega) (by clear hret hw hl M hK hZ hx hb; intro b9 k9 hb1 hk9; rw [hN1] at hb1; (try simp only [mOffer, setN, if_true, if_false, reduceIte]) <;> (repeat' split) <;> first | rfl | (exfalso; omega) | exact dem_at (by omega) (by omega) rfl rfl | omega) (by clear hret hw hl M hK hZ hx hb; intro b9 i9 k9 hb1 hi9 h39 hk9; rw [hN1] at hb1; simp only [mOffer, setN, if_true, if_false, reduceIte] at hi9; (try simp only [mOffer, setN, if_true, if_false, reduceIte]) <;> (repeat' split at hi9) <;> (repeat' split) <;> first | rfl | (exfalso; omega) | exact lot_at (by omega) (by omega) (by omega) (by omega) rfl rfl | omega) (by clear hret hw hl M hK hZ hx hb; intro b9 i9 hb1 hi9 h39; rw [hN1] at hb1; simp only [mOffer, setN, if_true, if_false, reduceIte] at hi9; (try simp only [mOffer, setN, if_true, if_false, reduceIte]) <;> (repeat' split at hi9) <;> (repeat' split) <;> first | rfl | (exfalso; omega) | exact wor_at (by omega) (by omega) (by omega) rfl rfl | omega)
  have hw : xW G A s.heap [aucW Y h (mOffer ρ k u v) γ2] H locs := hw
  exact hret _ _ _ _ _ dX1_changeOffer_14 hw rfl ⟨_, rfl⟩
set_option maxHeartbeats 4000000 in
set_option maxRecDepth 20000 in
theorem k_X1_changeDemands (l : Launch) (G : va_G) (Y : Nat → Nat) (h j a b d n r o u v : Nat) (f0 f1 f2 f3 f4 f5 f6 f7 f8 f9 : Nat → Nat) (hj : j < 6) : CtV l yX1_changeDemands cX1_changeDemands 5 1 21 [.ref h, .int (nI j), .int (nI a), .int (nI b), .int (nI d)] [aucR Y h f0 f1 f2 f3 f4 f5 f6 f7 f8 f9 n r o u v] (fun sg => sg = [aucR Y h f0 f1 f2 f3 f4 f5 f6 (setN (setN (setN f7 (3 * j) a) (1 + 3 * j) b) (2 + 3 * j) d) f8 f9 n r o u v]) G Y := by
  refine x_ofV (by decide) (Nat.le_of_ble_eq_true rfl) (fun p e s m args below meth c A ls Q M hK hZ hw hl hret => ?_)
  obtain ⟨hx, hb, -⟩ := id M
  have hl : lv_has ls 5 [(0, .ref h), (1, .int (nI j)), (2, .int (nI a)), (3, .int (nI b)), (4, .int (nI d))] := hl
  refine lv_aload_n hx hb dX1_changeDemands_0 rfl (lv_at hl 0 rfl) ?_
  refine x_get M hK hw 0 0 rfl rfl ff_X1_33 rfl dX1_changeDemands_1 ?_
  refine lv_iload_n hx hb dX1_changeDemands_4 rfl (lv_at hl 1 rfl) ?_
  refine lv_iconst (v := (nI 0)) hx hb dX1_changeDemands_5 (by decide) ?_
  refine x_cNI (As := [.int (nI j), .int (nI 0)]) (k_X5_cell l G Y j 0) cw_X1_72 [] M hK hZ hw hl.1 rfl (by decide) ⟨by decide, by decide⟩ ⟨Nat.zero_le _, Nat.zero_le _⟩ rfl rfl (Nat.le_of_ble_eq_true rfl) dX1_changeDemands_6 (fun r sg h_1 H locs hw => ?_)
  obtain ⟨rfl, rfl⟩ := h_1
  have hw : xW G A s.heap [aucR Y h f0 f1 f2 f3 f4 f5 f6 f7 f8 f9 n r o u v] H locs := hw
  refine x_topN (n := 3 * j) (congrArg nI (by omega)) ?_
  refine lv_iload_n hx hb dX1_changeDemands_9 rfl (lv_at hl 2 rfl) ?_
  refine x_iast M hK hw 0 8 rfl rfl (by omega) (by decide) dX1_changeDemands_10 (fun H locs hw => ?_)
  rw [upd_row] at hw
  have hw : xW G A s.heap [aucR Y h f0 f1 f2 f3 f4 f5 f6 (setN f7 (3 * j) a) f8 f9 n r o u v] H locs := hw
  refine lv_aload_n hx hb dX1_changeDemands_11 rfl (lv_at hl 0 rfl) ?_
  refine x_get M hK hw 0 0 rfl rfl ff_X1_33 rfl dX1_changeDemands_12 ?_
  refine lv_iload_n hx hb dX1_changeDemands_15 rfl (lv_at hl 1 rfl) ?_
  refine lv_iconst (v := (nI 1)) hx hb dX1_changeDemands_16 (by decide) ?_
  refine x_cNI (As := [.int (nI j), .int (nI 1)]) (k_X5_cell l G Y j 1) cw_X1_72 [] M hK hZ hw hl.1 rfl (by decide) ⟨by decide, by decide⟩ ⟨Nat.zero_le _, Nat.zero_le _⟩ rfl rfl (Nat.le_of_ble_eq_true rfl) dX1_changeDemands_17 (fun r sg h_2 H locs hw => ?_)
  obtain ⟨rfl, rfl⟩ := h_2
  have hw : xW G A s.heap [aucR Y h f0 f1 f2 f3 f4 f5 f6 (setN f7 (3 * j) a) f8 f9 n r o u v] H locs := hw
  refine x_topN (n := 1 + 3 * j) (congrArg nI (by omega)) ?_
  refine lv_iload_n hx hb dX1_changeDemands_20 rfl (lv_at hl 3 rfl) ?_
  refine x_iast M hK hw 0 8 rfl rfl (by omega) (by decide) dX1_changeDemands_21 (fun H locs hw => ?_)
  rw [upd_row] at hw
  have hw : xW G A s.heap [aucR Y h f0 f1 f2 f3 f4 f5 f6 (setN (setN f7 (3 * j) a) (1 + 3 * j) b) f8 f9 n r o u v] H locs := hw
  refine lv_aload_n hx hb dX1_changeDemands_22 rfl (lv_at hl 0 rfl) ?_
  refine x_get M hK hw 0 0 rfl rfl ff_X1_33 rfl dX1_changeDemands_23 ?_
  refine lv_iload_n hx hb dX1_changeDemands_26 rfl (lv_at hl 1 rfl) ?_
  refine lv_iconst (v := (nI 2)) hx hb dX1_changeDemands_27 (by decide) ?_
  refine x_cNI (As := [.int (nI j), .int (nI 2)]) (k_X5_cell l G Y j 2) cw_X1_72 [] M hK hZ hw hl.1 rfl (by decide) ⟨by decide, by decide⟩ ⟨Nat.zero_le _, Nat.zero_le _⟩ rfl rfl (Nat.le_of_ble_eq_true rfl) dX1_changeDemands_28 (fun r sg h_3 H locs hw => ?_)
  obtain ⟨rfl, rfl⟩ := h_3
  have hw : xW G A s.heap [aucR Y h f0 f1 f2 f3 f4 f5 f6 (setN (setN f7 (3 * j) a) (1 + 3 * j) b) f8 f9 n r o u v] H locs := hw
  refine x_topN (n := 2 + 3 * j) (congrArg nI (by omega)) ?_
  refine lv_iload hx hb dX1_changeDemands_31 (lv_at hl 4 rfl) ?_
  refine x_iast M hK hw 0 8 rfl rfl (by omega) (by decide) dX1_changeDemands_33 (fun H locs hw => ?_)
  rw [upd_row] at hw
  have hw : xW G A s.heap [aucR Y h f0 f1 f2 f3 f4 f5 f6 (setN (setN (setN f7 (3 * j) a) (1 + 3 * j) b) (2 + 3 * j) d) f8 f9 n r o u v] H locs := hw
  exact hret _ _ _ _ _ dX1_changeDemands_34 hw rfl rfl
set_option maxHeartbeats 4000000 in
set_option maxRecDepth 20000 in
theorem k_X1_addBidder (l : Launch) (G : va_G) (Y : Nat → Nat) (h u v : Nat) (ρ : Nat → Nat) (γ : Nat → Nat → Nat) (hI : Inv ρ) (hn : ρ 4 < 6) : CtV l yX1_addBidder cX1_addBidder 5 2 45 [.ref h, .int (nI u), .int (nI v)] [aucW Y h ρ γ] (fun sg => ∃ γ' : Nat → Nat → Nat, sg = [aucW Y h (mJoin ρ u v) γ']) G Y := by
  refine x_ofV (by decide) (Nat.le_of_ble_eq_true rfl) (fun p e s m args below meth c A ls Q M hK hZ hw hl hret => ?_)
  obtain ⟨hx, hb, -⟩ := id M
  have hl : lv_has ls 5 [(0, .ref h), (1, .int (nI u)), (2, .int (nI v))] := hl
  have := hI.n6
  have := hI.over
  have := hI.keep
  have := hI.stepp
  refine lv_aload_n hx hb dX1_addBidder_0 rfl (lv_at hl 0 rfl) ?_
  refine x_get M hK hw 0 0 rfl rfl ff_X1_45 rfl dX1_addBidder_1 ?_
  refine lv_istore_n (lv' := [(3, .int (nI (ρ 4))), (0, .ref h), (1, .int (nI u)), (2, .int (nI v))]) hx hb dX1_addBidder_4 rfl hl (by decide) rfl (fun ls hl => ?_)
  refine lv_aload_n hx hb dX1_addBidder_5 rfl (lv_at hl 1 rfl) ?_
  refine x_get M hK hw 0 0 rfl rfl ff_X1_21 rfl dX1_addBidder_6 ?_
  refine lv_iload_n hx hb dX1_addBidder_9 rfl (lv_at hl 0 rfl) ?_
  refine lv_iload_n hx hb dX1_addBidder_10 rfl (lv_at hl 2 rfl) ?_
  refine x_iast M hK hw 0 4 rfl rfl (by omega) (by decide) dX1_addBidder_11 (fun H locs hw => ?_)
  rw [upd_row] at hw
  have hw : xW G A s.heap [aucR Y h (supF ρ) (ptsF ρ) (priF ρ) (setN (rgtF ρ γ) (ρ 4) u) (capF ρ γ) (pckF ρ γ) (valF ρ γ) (demF ρ γ) (lotF ρ γ) (worF ρ γ) (ρ 4) (ρ 0) (ρ 1) (ρ 2) (ρ 3)] H locs := hw
  refine lv_aload_n hx hb dX1_addBidder_12 rfl (lv_at hl 1 rfl) ?_
  refine x_get M hK hw 0 0 rfl rfl ff_X1_24 rfl dX1_addBidder_13 ?_
  refine lv_iload_n hx hb dX1_addBidder_16 rfl (lv_at hl 0 rfl) ?_
  refine lv_iload_n hx hb dX1_addBidder_17 rfl (lv_at hl 3 rfl) ?_
  refine x_iast M hK hw 0 5 rfl rfl (by omega) (by decide) dX1_addBidder_18 (fun H locs hw => ?_)
  rw [upd_row] at hw
  have hw : xW G A s.heap [aucR Y h (supF ρ) (ptsF ρ) (priF ρ) (setN (rgtF ρ γ) (ρ 4) u) (setN (capF ρ γ) (ρ 4) v) (pckF ρ γ) (valF ρ γ) (demF ρ γ) (lotF ρ γ) (worF ρ γ) (ρ 4) (ρ 0) (ρ 1) (ρ 2) (ρ 3)] H locs := hw
  refine lv_aload_n hx hb dX1_addBidder_19 rfl (lv_at hl 1 rfl) ?_
  refine x_get M hK hw 0 0 rfl rfl ff_X1_27 rfl dX1_addBidder_20 ?_
  refine lv_iload_n hx hb dX1_addBidder_23 rfl (lv_at hl 0 rfl) ?_
  refine lv_iconst (v := (nI 0)) hx hb dX1_addBidder_24 (by decide) ?_
  refine x_iast M hK hw 0 6 rfl rfl (by omega) (by decide) dX1_addBidder_25 (fun H locs hw => ?_)
  rw [upd_row] at hw
  have hw : xW G A s.heap [aucR Y h (supF ρ) (ptsF ρ) (priF ρ) (setN (rgtF ρ γ) (ρ 4) u) (setN (capF ρ γ) (ρ 4) v) (setN (pckF ρ γ) (ρ 4) 0) (valF ρ γ) (demF ρ γ) (lotF ρ γ) (worF ρ γ) (ρ 4) (ρ 0) (ρ 1) (ρ 2) (ρ 3)] H locs := hw
  refine lv_aload_n hx hb dX1_addBidder_26 rfl (lv_at hl 1 rfl) ?_
  refine lv_iload_n hx hb dX1_addBidder_27 rfl (lv_at hl 0 rfl) ?_
  refine lv_iconst (v := (nI 0)) hx hb dX1_addBidder_28 (by decide) ?_
  refine lv_iconst (v := (nI 0)) hx hb dX1_addBidder_29 (by decide) ?_
  refine lv_iconst (v := (nI 0)) hx hb dX1_addBidder_30 (by decide) ?_
  refine x_cVV (As := [.int (nI (ρ 4)), .int (nI 0), .int (nI 0), .int (nI 0)]) (k_X1_changeDemands l G Y h (ρ 4) 0 0 0 (ρ 4) (ρ 0) (ρ 1) (ρ 2) (ρ 3) (supF ρ) (ptsF ρ) (priF ρ) (setN (rgtF ρ γ) (ρ 4) u) (setN (capF ρ γ) (ρ 4) v) (setN (pckF ρ γ) (ρ 4) 0) (valF ρ γ) (demF ρ γ) (lotF ρ γ) (worF ρ γ) (by omega)) cw_X1_114 [0] 0 0 M hK hZ hw hl.1 rfl (by decide) rfl rfl rfl ⟨by decide, by decide⟩ ⟨Nat.zero_le _, Nat.zero_le _⟩ rfl rfl (Nat.le_of_ble_eq_true rfl) dX1_addBidder_31 (fun sg h_1 H locs hw => ?_)
  obtain rfl := h_1
  have hw : xW G A s.heap [aucR Y h (supF ρ) (ptsF ρ) (priF ρ) (setN (rgtF ρ γ) (ρ 4) u) (setN (capF ρ γ) (ρ 4) v) (setN (pckF ρ γ) (ρ 4) 0) (valF ρ γ) (setN (setN (setN (demF ρ γ) (3 * (ρ 4)) 0) (1 + 3 * (ρ 4)) 0) (2 + 3 * (ρ 4)) 0) (lotF ρ γ) (worF ρ γ) (ρ 4) (ρ 0) (ρ 1) (ρ 2) (ρ 3)] H locs := hw
  refine lv_iconst (v := (nI 0)) hx hb dX1_addBidder_34 (by decide) ?_
  refine lv_istore (lv' := [(4, .int (nI 0)), (3, .int (nI (ρ 4))), (0, .ref h), (1, .int (nI u)), (2, .int (nI v))]) hx hb dX1_addBidder_35 hl (by decide) rfl (fun ls hl => ?_)
  refine lv_iload hx hb dX1_addBidder_37 (lv_at hl 0 rfl) ?_
  refine lv_iconst (v := (nI 3)) hx hb dX1_addBidder_39 (by decide) ?_
  refine x_cge M (tgt := 61) (by decide) (by decide) dX1_addBidder_40 (by decide) (fun c_2 => absurd c_2 (by decide)) (fun c_2 => ?_)
  refine lv_aload_n hx hb dX1_addBidder_43 rfl (lv_at hl 2 rfl) ?_
  refine x_get M hK hw 0 0 rfl rfl ff_X1_30 rfl dX1_addBidder_44 ?_
  refine lv_iload_n hx hb dX1_addBidder_47 rfl (lv_at hl 1 rfl) ?_
  refine lv_iload hx hb dX1_addBidder_48 (lv_at hl 0 rfl) ?_
  refine x_cNI (As := [.int (nI (ρ 4)), .int (nI 0)]) (k_X5_cell l G Y (ρ 4) 0) cw_X1_72 [] M hK hZ hw hl.1 rfl (by decide) ⟨by decide, by decide⟩ ⟨Nat.zero_le _, Nat.zero_le _⟩ rfl rfl (Nat.le_of_ble_eq_true rfl) dX1_addBidder_50 (fun r sg h_3 H locs hw => ?_)
  obtain ⟨rfl, rfl⟩ := h_3
  have hw : xW G A s.heap [aucR Y h (supF ρ) (ptsF ρ) (priF ρ) (setN (rgtF ρ γ) (ρ 4) u) (setN (capF ρ γ) (ρ 4) v) (setN (pckF ρ γ) (ρ 4) 0) (valF ρ γ) (setN (setN (setN (demF ρ γ) (3 * (ρ 4)) 0) (1 + 3 * (ρ 4)) 0) (2 + 3 * (ρ 4)) 0) (lotF ρ γ) (worF ρ γ) (ρ 4) (ρ 0) (ρ 1) (ρ 2) (ρ 3)] H locs := hw
  refine x_topN (n := 3 * (ρ 4)) (congrArg nI (by omega)) ?_
  refine lv_iconst (v := (nI 0)) hx hb dX1_addBidder_53 (by decide) ?_
  refine x_iast M hK hw 0 7 rfl rfl (by omega) (by decide) dX1_addBidder_54 (fun H locs hw => ?_)
  rw [upd_row] at hw
  have hw : xW G A s.heap [aucR Y h (supF ρ) (ptsF ρ) (priF ρ) (setN (rgtF ρ γ) (ρ 4) u) (setN (capF ρ γ) (ρ 4) v) (setN (pckF ρ γ) (ρ 4) 0) (setN (valF ρ γ) (3 * (ρ 4)) 0) (setN (setN (setN (demF ρ γ) (3 * (ρ 4)) 0) (1 + 3 * (ρ 4)) 0) (2 + 3 * (ρ 4)) 0) (lotF ρ γ) (worF ρ γ) (ρ 4) (ρ 0) (ρ 1) (ρ 2) (ρ 3)] H locs := hw
  refine lv_iinc (v := (nI 1)) (lv' := [(4, .int (nI 1)), (3, .int (nI (ρ 4))), (0, .ref h), (1, .int (nI u)), (2, .int (nI v))]) hx hb dX1_addBidder_55 hl (k := 0) rfl (by decide) (by decide) rfl (fun ls hl => ?_)
  refine lv_goto (tgt := 37) hx hb dX1_addBidder_58 (by decide) ?_
  refine lv_iload hx hb dX1_addBidder_37 (lv_at hl 0 rfl) ?_
  refine lv_iconst (v := (nI 3)) hx hb dX1_addBidder_39 (by decide) ?_
  refine x_cge M (tgt := 61) (by decide) (by decide) dX1_addBidder_40 (by decide) (fun c_4 => absurd c_4 (by decide)) (fun c_4 => ?_)
  refine lv_aload_n hx hb dX1_addBidder_43 rfl (lv_at hl 2 rfl) ?_
  refine x_get M hK hw 0 0 rfl rfl ff_X1_30 rfl dX1_addBidder_44 ?_
  refine lv_iload_n hx hb dX1_addBidder_47 rfl (lv_at hl 1 rfl) ?_
  refine lv_iload hx hb dX1_addBidder_48 (lv_at hl 0 rfl) ?_
  refine x_cNI (As := [.int (nI (ρ 4)), .int (nI 1)]) (k_X5_cell l G Y (ρ 4) 1) cw_X1_72 [] M hK hZ hw hl.1 rfl (by decide) ⟨by decide, by decide⟩ ⟨Nat.zero_le _, Nat.zero_le _⟩ rfl rfl (Nat.le_of_ble_eq_true rfl) dX1_addBidder_50 (fun r sg h_5 H locs hw => ?_)
  obtain ⟨rfl, rfl⟩ := h_5
  have hw : xW G A s.heap [aucR Y h (supF ρ) (ptsF ρ) (priF ρ) (setN (rgtF ρ γ) (ρ 4) u) (setN (capF ρ γ) (ρ 4) v) (setN (pckF ρ γ) (ρ 4) 0) (setN (valF ρ γ) (3 * (ρ 4)) 0) (setN (setN (setN (demF ρ γ) (3 * (ρ 4)) 0) (1 + 3 * (ρ 4)) 0) (2 + 3 * (ρ 4)) 0) (lotF ρ γ) (worF ρ γ) (ρ 4) (ρ 0) (ρ 1) (ρ 2) (ρ 3)] H locs := hw
  refine x_topN (n := 1 + 3 * (ρ 4)) (congrArg nI (by omega)) ?_
  refine lv_iconst (v := (nI 0)) hx hb dX1_addBidder_53 (by decide) ?_
  refine x_iast M hK hw 0 7 rfl rfl (by omega) (by decide) dX1_addBidder_54 (fun H locs hw => ?_)
  rw [upd_row] at hw
  have hw : xW G A s.heap [aucR Y h (supF ρ) (ptsF ρ) (priF ρ) (setN (rgtF ρ γ) (ρ 4) u) (setN (capF ρ γ) (ρ 4) v) (setN (pckF ρ γ) (ρ 4) 0) (setN (setN (valF ρ γ) (3 * (ρ 4)) 0) (1 + 3 * (ρ 4)) 0) (setN (setN (setN (demF ρ γ) (3 * (ρ 4)) 0) (1 + 3 * (ρ 4)) 0) (2 + 3 * (ρ 4)) 0) (lotF ρ γ) (worF ρ γ) (ρ 4) (ρ 0) (ρ 1) (ρ 2) (ρ 3)] H locs := hw
  refine lv_iinc (v := (nI 2)) (lv' := [(4, .int (nI 2)), (3, .int (nI (ρ 4))), (0, .ref h), (1, .int (nI u)), (2, .int (nI v))]) hx hb dX1_addBidder_55 hl (k := 0) rfl (by decide) (by decide) rfl (fun ls hl => ?_)
  refine lv_goto (tgt := 37) hx hb dX1_addBidder_58 (by decide) ?_
  refine lv_iload hx hb dX1_addBidder_37 (lv_at hl 0 rfl) ?_
  refine lv_iconst (v := (nI 3)) hx hb dX1_addBidder_39 (by decide) ?_
  refine x_cge M (tgt := 61) (by decide) (by decide) dX1_addBidder_40 (by decide) (fun c_6 => absurd c_6 (by decide)) (fun c_6 => ?_)
  refine lv_aload_n hx hb dX1_addBidder_43 rfl (lv_at hl 2 rfl) ?_
  refine x_get M hK hw 0 0 rfl rfl ff_X1_30 rfl dX1_addBidder_44 ?_
  refine lv_iload_n hx hb dX1_addBidder_47 rfl (lv_at hl 1 rfl) ?_
  refine lv_iload hx hb dX1_addBidder_48 (lv_at hl 0 rfl) ?_
  refine x_cNI (As := [.int (nI (ρ 4)), .int (nI 2)]) (k_X5_cell l G Y (ρ 4) 2) cw_X1_72 [] M hK hZ hw hl.1 rfl (by decide) ⟨by decide, by decide⟩ ⟨Nat.zero_le _, Nat.zero_le _⟩ rfl rfl (Nat.le_of_ble_eq_true rfl) dX1_addBidder_50 (fun r sg h_7 H locs hw => ?_)
  obtain ⟨rfl, rfl⟩ := h_7
  have hw : xW G A s.heap [aucR Y h (supF ρ) (ptsF ρ) (priF ρ) (setN (rgtF ρ γ) (ρ 4) u) (setN (capF ρ γ) (ρ 4) v) (setN (pckF ρ γ) (ρ 4) 0) (setN (setN (valF ρ γ) (3 * (ρ 4)) 0) (1 + 3 * (ρ 4)) 0) (setN (setN (setN (demF ρ γ) (3 * (ρ 4)) 0) (1 + 3 * (ρ 4)) 0) (2 + 3 * (ρ 4)) 0) (lotF ρ γ) (worF ρ γ) (ρ 4) (ρ 0) (ρ 1) (ρ 2) (ρ 3)] H locs := hw
  refine x_topN (n := 2 + 3 * (ρ 4)) (congrArg nI (by omega)) ?_
  refine lv_iconst (v := (nI 0)) hx hb dX1_addBidder_53 (by decide) ?_
  refine x_iast M hK hw 0 7 rfl rfl (by omega) (by decide) dX1_addBidder_54 (fun H locs hw => ?_)
  rw [upd_row] at hw
  have hw : xW G A s.heap [aucR Y h (supF ρ) (ptsF ρ) (priF ρ) (setN (rgtF ρ γ) (ρ 4) u) (setN (capF ρ γ) (ρ 4) v) (setN (pckF ρ γ) (ρ 4) 0) (setN (setN (setN (valF ρ γ) (3 * (ρ 4)) 0) (1 + 3 * (ρ 4)) 0) (2 + 3 * (ρ 4)) 0) (setN (setN (setN (demF ρ γ) (3 * (ρ 4)) 0) (1 + 3 * (ρ 4)) 0) (2 + 3 * (ρ 4)) 0) (lotF ρ γ) (worF ρ γ) (ρ 4) (ρ 0) (ρ 1) (ρ 2) (ρ 3)] H locs := hw
  refine lv_iinc (v := (nI 3)) (lv' := [(4, .int (nI 3)), (3, .int (nI (ρ 4))), (0, .ref h), (1, .int (nI u)), (2, .int (nI v))]) hx hb dX1_addBidder_55 hl (k := 0) rfl (by decide) (by decide) rfl (fun ls hl => ?_)
  refine lv_goto (tgt := 37) hx hb dX1_addBidder_58 (by decide) ?_
  refine lv_iload hx hb dX1_addBidder_37 (lv_at hl 0 rfl) ?_
  refine lv_iconst (v := (nI 3)) hx hb dX1_addBidder_39 (by decide) ?_
  refine x_cge M (tgt := 61) (by decide) (by decide) dX1_addBidder_40 (by decide) (fun c_8 => ?_) (fun c_8 => absurd c_8 (by decide))
  refine lv_aload_n hx hb dX1_addBidder_61 rfl (lv_at hl 2 rfl) ?_
  refine lv_dup hx hb dX1_addBidder_62 rfl ?_
  refine x_get M hK hw 0 0 rfl rfl ff_X1_45 rfl dX1_addBidder_63 ?_
  refine lv_iconst (v := (nI 1)) hx hb dX1_addBidder_66 (by decide) ?_
  refine x_iadd M (n := 1 + ρ 4) dX1_addBidder_67 (by omega) ?_
  refine x_put M hK hw 0 0 rfl rfl fp_X1_45 rfl rfl (Nat.le_of_ble_eq_true rfl) dX1_addBidder_68 (fun H locs hw => ?_)
  have hw : xW G A s.heap [aucR Y h (supF ρ) (ptsF ρ) (priF ρ) (setN (rgtF ρ γ) (ρ 4) u) (setN (capF ρ γ) (ρ 4) v) (setN (pckF ρ γ) (ρ 4) 0) (setN (setN (setN (valF ρ γ) (3 * (ρ 4)) 0) (1 + 3 * (ρ 4)) 0) (2 + 3 * (ρ 4)) 0) (setN (setN (setN (demF ρ γ) (3 * (ρ 4)) 0) (1 + 3 * (ρ 4)) 0) (2 + 3 * (ρ 4)) 0) (lotF ρ γ) (worF ρ γ) (1 + ρ 4) (ρ 0) (ρ 1) (ρ 2) (ρ 3)] H locs := hw
  have hN9 : (mJoin ρ u v) 4 = 1 + ρ 4 := by clear hret hw hl M hK hZ hx hb; simp only [mJoin, setN, if_true, if_false, reduceIte] <;> (repeat' split) <;> first | rfl | (exfalso; omega) | omega
  obtain ⟨γ10, hw⟩ := auc_fold (i := 0) (ρ' := mJoin ρ u v) hw rfl hN9.symm (by clear hret hw hl M hK hZ hx hb; simp only [mJoin, setN, if_true, if_false, reduceIte] <;> (repeat' split) <;> first | rfl | (exfalso; omega) | omega) (by clear hret hw hl M hK hZ hx hb; simp only [mJoin, setN, if_true, if_false, reduceIte] <;> (repeat' split) <;> first | rfl | (exfalso; omega) | omega) (by clear hret hw hl M hK hZ hx hb; simp only [mJoin, setN, if_true, if_false, reduceIte] <;> (repeat' split) <;> first | rfl | (exfalso; omega) | omega) (by clear hret hw hl M hK hZ hx hb; simp only [mJoin, setN, if_true, if_false, reduceIte] <;> (repeat' split) <;> first | rfl | (exfalso; omega) | omega) (by clear hret hw hl M hK hZ hx hb; intro k9 hk9; (try simp only [mJoin, setN, if_true, if_false, reduceIte, supF]) <;> (repeat' split) <;> first | rfl | (exfalso; omega) | omega) (by clear hret hw hl M hK hZ hx hb; intro k9 hk9; (try simp only [mJoin, setN, if_true, if_false, reduceIte, ptsF]) <;> (repeat' split) <;> first | rfl | (exfalso; omega) | omega) (by clear hret hw hl M hK hZ hx hb; intro k9 hk9; (try simp only [mJoin, setN, if_true, if_false, reduceIte, priF]) <;> (repeat' split) <;> first | rfl | (exfalso; omega) | omega) (by clear hret hw hl M hK hZ hx hb; intro b9 hb1; rw [hN9] at hb1; (try simp only [mJoin, setN, if_true, if_false, reduceIte]) <;> (repeat' split) <;> first | rfl | (exfalso; omega) | exact rgt_at (by omega) rfl rfl | omega) (by clear hret hw hl M hK hZ hx hb; intro b9 hb1; rw [hN9] at hb1; (try simp only [mJoin, setN, if_true, if_false, reduceIte]) <;> (repeat' split) <;> first | rfl | (exfalso; omega) | exact cap_at (by omega) rfl rfl | omega) (by clear hret hw hl M hK hZ hx hb; intro b9 hb1; rw [hN9] at hb1; (try simp only [mJoin, setN, if_true, if_false, reduceIte]) <;> (repeat' split) <;> first | rfl | (exfalso; omega) | (exact (hI.zer (j := b9) (by omega) (by omega) (by omega) (by omega)).symm) | exact pck_at (by omega) rfl rfl | omega) (by clear hret hw hl M hK hZ hx hb; intro b9 k9 hb1 hk9; rw [hN9] at hb1; (try simp only [mJoin, setN, if_true, if_false, reduceIte]) <;> (repeat' split) <;> first | rfl | (exfalso; omega) | (exact (hI.zer (j := b9) (by omega) (by omega) (by omega) (by omega)).symm) | exact val_at (by omega) (by omega) rfl rfl | omega) (by clear hret hw hl M hK hZ hx hb; intro b9 k9 hb1 hk9; rw [hN9] at hb1; (try simp only [mJoin, setN, if_true, if_false, reduceIte]) <;> (repeat' split) <;> first | rfl | (exfalso; omega) | (exact (hI.zer (j := b9) (by omega) (by omega) (by omega) (by omega)).symm) | exact dem_at (by omega) (by omega) rfl rfl | omega) (by clear hret hw hl M hK hZ hx hb; intro b9 i9 k9 hb1 hi9 h39 hk9; rw [hN9] at hb1; simp only [mJoin, setN, if_true, if_false, reduceIte] at hi9; (try simp only [mJoin, setN, if_true, if_false, reduceIte]) <;> (repeat' split at hi9) <;> (repeat' split) <;> first | rfl | (exfalso; omega) | (rcases Nat.lt_or_ge b9 (ρ 4) with q9 | q9; exact lot_at (by omega) (by omega) (by omega) (by omega) rfl rfl; have := hI.zer (q := 22 + 21 * b9) q9 (by omega) (by omega) (by omega); exfalso; omega) | omega) (by clear hret hw hl M hK hZ hx hb; intro b9 i9 hb1 hi9 h39; rw [hN9] at hb1; simp only [mJoin, setN, if_true, if_false, reduceIte] at hi9; (try simp only [mJoin, setN, if_true, if_false, reduceIte]) <;> (repeat' split at hi9) <;> (repeat' split) <;> first | rfl | (exfalso; omega) | (rcases Nat.lt_or_ge b9 (ρ 4) with q9 | q9; exact wor_at (by omega) (by omega) (by omega) rfl rfl; have := hI.zer (q := 22 + 21 * b9) q9 (by omega) (by omega) (by omega); exfalso; omega) | omega)
  have hw : xW G A s.heap [aucW Y h (mJoin ρ u v) γ10] H locs := hw
  exact hret _ _ _ _ _ dX1_addBidder_71 hw rfl ⟨_, rfl⟩
set_option maxHeartbeats 4000000 in
set_option maxRecDepth 20000 in
theorem k_X1_changeSetting (l : Launch) (G : va_G) (Y : Nat → Nat) (h v : Nat) (ρ : Nat → Nat) (γ : Nat → Nat → Nat) (w : Int32) (hI : Inv ρ) : CtV l yX1_changeSetting cX1_changeSetting 3 0 0 [.ref h, .int w, .int (nI v)] [aucW Y h ρ γ] (fun sg => ∃ γ' : Nat → Nat → Nat, sg = [aucW Y h (mSet ρ w.toInt v) γ']) G Y := by
  refine x_ofV (by decide) (Nat.le_of_ble_eq_true rfl) (fun p e s m args below meth c A ls Q M hK hZ hw hl hret => ?_)
  obtain ⟨hx, hb, -⟩ := id M
  have hl : lv_has ls 3 [(0, .ref h), (1, .int w), (2, .int (nI v))] := hl
  have := hI.n6
  have := hI.over
  have := hI.keep
  have := hI.stepp
  refine lv_iload_n hx hb dX1_changeSetting_0 rfl (lv_at hl 1 rfl) ?_
  refine lv_if_ne (tgt := 12) hx hb dX1_changeSetting_1 (by decide) (fun c_1 => ?_) (fun c_1 => ?_)
  · refine lv_aload_n hx hb dX1_changeSetting_12 rfl (lv_at hl 0 rfl) ?_
    refine lv_iload_n hx hb dX1_changeSetting_13 rfl (lv_at hl 2 rfl) ?_
    refine x_put M hK hw 0 0 rfl rfl fp_X1_59 rfl rfl (Nat.le_of_ble_eq_true rfl) dX1_changeSetting_14 (fun H locs hw => ?_)
    have hw : xW G A s.heap [aucR Y h (supF ρ) (ptsF ρ) (priF ρ) (rgtF ρ γ) (capF ρ γ) (pckF ρ γ) (valF ρ γ) (demF ρ γ) (lotF ρ γ) (worF ρ γ) (ρ 4) (ρ 0) (ρ 1) (ρ 2) v] H locs := hw
    rw [← Int32.toInt_inj, show (0 : Int32).toInt = 0 from rfl] at c_1
    have hN2 : (mSet ρ w.toInt v) 4 = ρ 4 := by clear hret hw hl M hK hZ hx hb; simp only [mSet, c_1, setN, if_true, if_false, reduceIte] <;> (repeat' split) <;> first | rfl | (exfalso; omega) | omega
    obtain ⟨γ3, hw⟩ := auc_fold (i := 0) (ρ' := mSet ρ w.toInt v) hw rfl hN2.symm (by clear hret hw hl M hK hZ hx hb; simp only [mSet, c_1, setN, if_true, if_false, reduceIte] <;> (repeat' split) <;> first | rfl | (exfalso; omega) | omega) (by clear hret hw hl M hK hZ hx hb; simp only [mSet, c_1, setN, if_true, if_false, reduceIte] <;> (repeat' split) <;> first | rfl | (exfalso; omega) | omega) (by clear hret hw hl M hK hZ hx hb; simp only [mSet, c_1, setN, if_true, if_false, reduceIte] <;> (repeat' split) <;> first | rfl | (exfalso; omega) | omega) (by clear hret hw hl M hK hZ hx hb; simp only [mSet, c_1, setN, if_true, if_false, reduceIte] <;> (repeat' split) <;> first | rfl | (exfalso; omega) | omega) (by clear hret hw hl M hK hZ hx hb; intro k9 hk9; (try simp only [mSet, c_1, setN, if_true, if_false, reduceIte, supF]) <;> (repeat' split) <;> first | rfl | (exfalso; omega) | omega) (by clear hret hw hl M hK hZ hx hb; intro k9 hk9; (try simp only [mSet, c_1, setN, if_true, if_false, reduceIte, ptsF]) <;> (repeat' split) <;> first | rfl | (exfalso; omega) | omega) (by clear hret hw hl M hK hZ hx hb; intro k9 hk9; (try simp only [mSet, c_1, setN, if_true, if_false, reduceIte, priF]) <;> (repeat' split) <;> first | rfl | (exfalso; omega) | omega) (by clear hret hw hl M hK hZ hx hb; intro b9 hb1; rw [hN2] at hb1; (try simp only [mSet, c_1, setN, if_true, if_false, reduceIte]) <;> (repeat' split) <;> first | rfl | (exfalso; omega) | exact rgt_at (by omega) rfl rfl | omega) (by clear hret hw hl M hK hZ hx hb; intro b9 hb1; rw [hN2] at hb1; (try simp only [mSet, c_1, setN, if_true, if_false, reduceIte]) <;> (repeat' split) <;> first | rfl | (exfalso; omega) | exact cap_at (by omega) rfl rfl | omega) (by clear hret hw hl M hK hZ hx hb; intro b9 hb1; rw [hN2] at hb1; (try simp only [mSet, c_1, setN, if_true, if_false, reduceIte]) <;> (repeat' split) <;> first | rfl | (exfalso; omega) | exact pck_at (by omega) rfl rfl | omega) (by clear hret hw hl M hK hZ hx hb; intro b9 k9 hb1 hk9; rw [hN2] at hb1; (try simp only [mSet, c_1, setN, if_true, if_false, reduceIte]) <;> (repeat' split) <;> first | rfl | (exfalso; omega) | exact val_at (by omega) (by omega) rfl rfl | omega) (by clear hret hw hl M hK hZ hx hb; intro b9 k9 hb1 hk9; rw [hN2] at hb1; (try simp only [mSet, c_1, setN, if_true, if_false, reduceIte]) <;> (repeat' split) <;> first | rfl | (exfalso; omega) | exact dem_at (by omega) (by omega) rfl rfl | omega) (by clear hret hw hl M hK hZ hx hb; intro b9 i9 k9 hb1 hi9 h39 hk9; rw [hN2] at hb1; simp only [mSet, c_1, setN, if_true, if_false, reduceIte] at hi9; (try simp only [mSet, c_1, setN, if_true, if_false, reduceIte]) <;> (repeat' split at hi9) <;> (repeat' split) <;> first | rfl | (exfalso; omega) | exact lot_at (by omega) (by omega) (by omega) (by omega) rfl rfl | omega) (by clear hret hw hl M hK hZ hx hb; intro b9 i9 hb1 hi9 h39; rw [hN2] at hb1; simp only [mSet, c_1, setN, if_true, if_false, reduceIte] at hi9; (try simp only [mSet, c_1, setN, if_true, if_false, reduceIte]) <;> (repeat' split at hi9) <;> (repeat' split) <;> first | rfl | (exfalso; omega) | exact wor_at (by omega) (by omega) (by omega) rfl rfl | omega)
    have hw : xW G A s.heap [aucW Y h (mSet ρ w.toInt v) γ3] H locs := hw
    exact hret _ _ _ _ _ dX1_changeSetting_17 hw rfl ⟨_, rfl⟩
  refine lv_aload_n hx hb dX1_changeSetting_4 rfl (lv_at hl 0 rfl) ?_
  refine lv_iload_n hx hb dX1_changeSetting_5 rfl (lv_at hl 2 rfl) ?_
  refine x_put M hK hw 0 0 rfl rfl fp_X1_56 rfl rfl (Nat.le_of_ble_eq_true rfl) dX1_changeSetting_6 (fun H locs hw => ?_)
  have hw : xW G A s.heap [aucR Y h (supF ρ) (ptsF ρ) (priF ρ) (rgtF ρ γ) (capF ρ γ) (pckF ρ γ) (valF ρ γ) (demF ρ γ) (lotF ρ γ) (worF ρ γ) (ρ 4) (ρ 0) (ρ 1) v (ρ 3)] H locs := hw
  refine lv_goto (tgt := 17) hx hb dX1_changeSetting_9 (by decide) ?_
  rw [← Int32.toInt_inj, show (0 : Int32).toInt = 0 from rfl] at c_1
  have hN4 : (mSet ρ w.toInt v) 4 = ρ 4 := by clear hret hw hl M hK hZ hx hb; simp only [mSet, c_1, setN, if_true, if_false, reduceIte] <;> (repeat' split) <;> first | rfl | (exfalso; omega) | omega
  obtain ⟨γ5, hw⟩ := auc_fold (i := 0) (ρ' := mSet ρ w.toInt v) hw rfl hN4.symm (by clear hret hw hl M hK hZ hx hb; simp only [mSet, c_1, setN, if_true, if_false, reduceIte] <;> (repeat' split) <;> first | rfl | (exfalso; omega) | omega) (by clear hret hw hl M hK hZ hx hb; simp only [mSet, c_1, setN, if_true, if_false, reduceIte] <;> (repeat' split) <;> first | rfl | (exfalso; omega) | omega) (by clear hret hw hl M hK hZ hx hb; simp only [mSet, c_1, setN, if_true, if_false, reduceIte] <;> (repeat' split) <;> first | rfl | (exfalso; omega) | omega) (by clear hret hw hl M hK hZ hx hb; simp only [mSet, c_1, setN, if_true, if_false, reduceIte] <;> (repeat' split) <;> first | rfl | (exfalso; omega) | omega) (by clear hret hw hl M hK hZ hx hb; intro k9 hk9; (try simp only [mSet, c_1, setN, if_true, if_false, reduceIte, supF]) <;> (repeat' split) <;> first | rfl | (exfalso; omega) | omega) (by clear hret hw hl M hK hZ hx hb; intro k9 hk9; (try simp only [mSet, c_1, setN, if_true, if_false, reduceIte, ptsF]) <;> (repeat' split) <;> first | rfl | (exfalso; omega) | omega) (by clear hret hw hl M hK hZ hx hb; intro k9 hk9; (try simp only [mSet, c_1, setN, if_true, if_false, reduceIte, priF]) <;> (repeat' split) <;> first | rfl | (exfalso; omega) | omega) (by clear hret hw hl M hK hZ hx hb; intro b9 hb1; rw [hN4] at hb1; (try simp only [mSet, c_1, setN, if_true, if_false, reduceIte]) <;> (repeat' split) <;> first | rfl | (exfalso; omega) | exact rgt_at (by omega) rfl rfl | omega) (by clear hret hw hl M hK hZ hx hb; intro b9 hb1; rw [hN4] at hb1; (try simp only [mSet, c_1, setN, if_true, if_false, reduceIte]) <;> (repeat' split) <;> first | rfl | (exfalso; omega) | exact cap_at (by omega) rfl rfl | omega) (by clear hret hw hl M hK hZ hx hb; intro b9 hb1; rw [hN4] at hb1; (try simp only [mSet, c_1, setN, if_true, if_false, reduceIte]) <;> (repeat' split) <;> first | rfl | (exfalso; omega) | exact pck_at (by omega) rfl rfl | omega) (by clear hret hw hl M hK hZ hx hb; intro b9 k9 hb1 hk9; rw [hN4] at hb1; (try simp only [mSet, c_1, setN, if_true, if_false, reduceIte]) <;> (repeat' split) <;> first | rfl | (exfalso; omega) | exact val_at (by omega) (by omega) rfl rfl | omega) (by clear hret hw hl M hK hZ hx hb; intro b9 k9 hb1 hk9; rw [hN4] at hb1; (try simp only [mSet, c_1, setN, if_true, if_false, reduceIte]) <;> (repeat' split) <;> first | rfl | (exfalso; omega) | exact dem_at (by omega) (by omega) rfl rfl | omega) (by clear hret hw hl M hK hZ hx hb; intro b9 i9 k9 hb1 hi9 h39 hk9; rw [hN4] at hb1; simp only [mSet, c_1, setN, if_true, if_false, reduceIte] at hi9; (try simp only [mSet, c_1, setN, if_true, if_false, reduceIte]) <;> (repeat' split at hi9) <;> (repeat' split) <;> first | rfl | (exfalso; omega) | exact lot_at (by omega) (by omega) (by omega) (by omega) rfl rfl | omega) (by clear hret hw hl M hK hZ hx hb; intro b9 i9 hb1 hi9 h39; rw [hN4] at hb1; simp only [mSet, c_1, setN, if_true, if_false, reduceIte] at hi9; (try simp only [mSet, c_1, setN, if_true, if_false, reduceIte]) <;> (repeat' split at hi9) <;> (repeat' split) <;> first | rfl | (exfalso; omega) | exact wor_at (by omega) (by omega) (by omega) rfl rfl | omega)
  have hw : xW G A s.heap [aucW Y h (mSet ρ w.toInt v) γ5] H locs := hw
  exact hret _ _ _ _ _ dX1_changeSetting_17 hw rfl ⟨_, rfl⟩
