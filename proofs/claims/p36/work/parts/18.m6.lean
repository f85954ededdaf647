set_option maxHeartbeats 4000000 in
set_option maxRecDepth 20000 in
theorem k_X1_raisePrice (l : Launch) (G : va_G) (Y : Nat → Nat) (h k : Nat) (ρ : Nat → Nat) (γ : Nat → Nat → Nat) (hI : Inv ρ) (hk : k < 3) : CtV l yX1_raisePrice cX1_raisePrice 3 1 21 [.ref h, .int (nI k)] [aucW Y h ρ γ] (fun sg => ∃ γ' : Nat → Nat → Nat, sg = [aucW Y h (mRaise ρ k) γ']) G Y := by
  refine x_ofV (by decide) (Nat.le_of_ble_eq_true rfl) (fun p e s m args below meth c A ls Q M hK hZ hw hl hret => ?_)
  obtain ⟨hx, hb, -⟩ := id M
  have hl : lv_has ls 3 [(0, .ref h), (1, .int (nI k))] := hl
  have := hI.n6
  have := hI.over
  have := hI.keep
  have := hI.stepp
  refine lv_iconst (v := (nI 1)) hx hb dX1_raisePrice_0 (by decide) ?_
  refine lv_aload_n hx hb dX1_raisePrice_1 rfl (lv_at hl 0 rfl) ?_
  refine x_get M hK hw 0 0 rfl rfl ff_X1_18 rfl dX1_raisePrice_2 ?_
  refine lv_iload_n hx hb dX1_raisePrice_5 rfl (lv_at hl 1 rfl) ?_
  refine x_iald M hK hw 0 3 rfl rfl (by omega) (by decide) dX1_raisePrice_6 ?_
  refine x_topN (n := ρ (11 + k)) (congrArg (fun q => nI (ρ q)) (by omega)) ?_
  have q_1 : 1 ≤ ρ (11 + k) := (hI.pri (k := k) (by omega) rfl).1
  have q_2 : ρ (11 + k) ≤ 99999 := (hI.pri (k := k) (by omega) rfl).2
  refine lv_aload_n hx hb dX1_raisePrice_7 rfl (lv_at hl 0 rfl) ?_
  refine x_get M hK hw 0 0 rfl rfl ff_X1_59 rfl dX1_raisePrice_8 ?_
  refine x_imul M (n := (ρ (11 + k)) * (ρ 3)) dX1_raisePrice_11 rfl ?_
  have q_3 : (ρ (11 + k)) * (ρ 3) ≤ 4999950 := Nat.le_trans (Nat.mul_le_mul (show ρ (11 + k) ≤ 99999 by omega) (show ρ 3 ≤ 50 by omega)) (by decide)
  refine lv_bipush (v := (nI 100)) hx hb dX1_raisePrice_12 (by decide) ?_
  refine x_idiv M (n := ((ρ (11 + k)) * (ρ 3)) / 100) dX1_raisePrice_14 (by omega) (by omega) (by decide) rfl ?_
  refine x_max M hl.1 mw_346 mw_347 mw_13 mw_348 ⟨by decide, by decide⟩ ⟨Nat.zero_le _, Nat.zero_le _⟩ (Nat.le_of_ble_eq_true rfl) (by decide) (by omega) dX1_raisePrice_15 ?_
  refine lv_istore_n (lv' := [(2, .int (nI (max 1 (((ρ (11 + k)) * (ρ 3)) / 100)))), (0, .ref h), (1, .int (nI k))]) hx hb dX1_raisePrice_18 rfl hl (by decide) rfl (fun ls hl => ?_)
  refine lv_aload_n hx hb dX1_raisePrice_19 rfl (lv_at hl 1 rfl) ?_
  refine x_get M hK hw 0 0 rfl rfl ff_X1_18 rfl dX1_raisePrice_20 ?_
  refine lv_iload_n hx hb dX1_raisePrice_23 rfl (lv_at hl 2 rfl) ?_
  refine lv_ldc (v := (nI 99999)) hx hb M.2.2.2.1 (M.2.2.2.2 _ mw_349) dX1_raisePrice_24 ?_
  refine lv_aload_n hx hb dX1_raisePrice_26 rfl (lv_at hl 1 rfl) ?_
  refine x_get M hK hw 0 0 rfl rfl ff_X1_18 rfl dX1_raisePrice_27 ?_
  refine lv_iload_n hx hb dX1_raisePrice_30 rfl (lv_at hl 2 rfl) ?_
  refine x_iald M hK hw 0 3 rfl rfl (by omega) (by decide) dX1_raisePrice_31 ?_
  refine x_topN (n := ρ (11 + k)) (congrArg (fun q => nI (ρ q)) (by omega)) ?_
  refine lv_iload_n hx hb dX1_raisePrice_32 rfl (lv_at hl 0 rfl) ?_
  refine x_iadd M (n := ρ (11 + k) + max 1 (((ρ (11 + k)) * (ρ 3)) / 100)) dX1_raisePrice_33 rfl ?_
  refine x_min M hl.1 mw_289 mw_290 mw_13 mw_291 ⟨by decide, by decide⟩ ⟨Nat.zero_le _, Nat.zero_le _⟩ (Nat.le_of_ble_eq_true rfl) (by decide) (by omega) dX1_raisePrice_34 ?_
  refine x_iast M hK hw 0 3 rfl rfl (by omega) (by decide) dX1_raisePrice_37 (fun H locs hw => ?_)
  rw [upd_row] at hw
  have hw : xW G A s.heap [aucR Y h (supF ρ) (ptsF ρ) (setN (priF ρ) k (min 99999 (ρ (11 + k) + max 1 (((ρ (11 + k)) * (ρ 3)) / 100)))) (rgtF ρ γ) (capF ρ γ) (pckF ρ γ) (valF ρ γ) (demF ρ γ) (lotF ρ γ) (worF ρ γ) (ρ 4) (ρ 0) (ρ 1) (ρ 2) (ρ 3)] H locs := hw
  have hN4 : (mRaise ρ k) 4 = ρ 4 := by clear hret hw hl M hK hZ hx hb; simp only [mRaise, setN, if_true, if_false, reduceIte] <;> (repeat' split) <;> first | rfl | (exfalso; omega) | omega
  obtain ⟨γ5, hw⟩ := auc_fold (i := 0) (ρ' := mRaise ρ k) hw rfl hN4.symm (by clear hret hw hl M hK hZ hx hb; simp only [mRaise, setN, if_true, if_false, reduceIte] <;> (repeat' split) <;> first | rfl | (exfalso; omega) | omega) (by clear hret hw hl M hK hZ hx hb; simp only [mRaise, setN, if_true, if_false, reduceIte] <;> (repeat' split) <;> first | rfl | (exfalso; omega) | omega) (by clear hret hw hl M hK hZ hx hb; simp only [mRaise, setN, if_true, if_false, reduceIte] <;> (repeat' split) <;> first | rfl | (exfalso; omega) | omega) (by clear hret hw hl M hK hZ hx hb; simp only [mRaise, setN, if_true, if_false, reduceIte] <;> (repeat' split) <;> first | rfl | (exfalso; omega) | omega) (by clear hret hw hl M hK hZ hx hb; intro k9 hk9; (try simp only [mRaise, setN, if_true, if_false, reduceIte, supF]) <;> (repeat' split) <;> first | rfl | (exfalso; omega) | omega) (by clear hret hw hl M hK hZ hx hb; intro k9 hk9; (try simp only [mRaise, setN, if_true, if_false, reduceIte, ptsF]) <;> (repeat' split) <;> first | rfl | (exfalso; omega) | omega) (by clear hret hw hl M hK hZ hx hb; intro k9 hk9; (try simp only [mRaise, setN, if_true, if_false, reduceIte, priF]) <;> (repeat' split) <;> first | rfl | (exfalso; omega) | omega) (by clear hret hw hl M hK hZ hx hb; intro b9 hb1; rw [hN4] at hb1; (try simp only [mRaise, setN, if_true, if_false, reduceIte]) <;> (repeat' split) <;> first | rfl | (exfalso; omega) | exact rgt_at (by omega) rfl rfl | omega) (by clear hret hw hl M hK hZ hx hb; intro b9 hb1; rw [hN4] at hb1; (try simp only [mRaise, setN, if_true, if_false, reduceIte]) <;> (repeat' split) <;> first | rfl | (exfalso; omega) | exact cap_at (by omega) rfl rfl | omega) (by clear hret hw hl M hK hZ hx hb; intro b9 hb1; rw [hN4] at hb1; (try simp only [mRaise, setN, if_true, if_false, reduceIte]) <;> (repeat' split) <;> first | rfl | (exfalso; omega) | exact pck_at (by omega) rfl rfl | omega) (by clear hret hw hl M hK hZ hx hb; intro b9 k9 hb1 hk9; rw [hN4] at hb1; (try simp only [mRaise, setN, if_true, if_false, reduceIte]) <;> (repeat' split) <;> first | rfl | (exfalso; omega) | exact val_at (by omega) (by omega) rfl rfl | omega) (by clear hret hw hl M hK hZ hx hb; intro b9 k9 hb1 hk9; rw [hN4] at hb1; (try simp only [mRaise, setN, if_true, if_false, reduceIte]) <;> (repeat' split) <;> first | rfl | (exfalso; omega) | exact dem_at (by omega) (by omega) rfl rfl | omega) (by clear hret hw hl M hK hZ hx hb; intro b9 i9 k9 hb1 hi9 h39 hk9; rw [hN4] at hb1; simp only [mRaise, setN, if_true, if_false, reduceIte] at hi9; (try simp only [mRaise, setN, if_true, if_false, reduceIte]) <;> (repeat' split at hi9) <;> (repeat' split) <;> first | rfl | (exfalso; omega) | exact lot_at (by omega) (by omega) (by omega) (by omega) rfl rfl | omega) (by clear hret hw hl M hK hZ hx hb; intro b9 i9 hb1 hi9 h39; rw [hN4] at hb1; simp only [mRaise, setN, if_true, if_false, reduceIte] at hi9; (try simp only [mRaise, setN, if_true, if_false, reduceIte]) <;> (repeat' split at hi9) <;> (repeat' split) <;> first | rfl | (exfalso; omega) | exact wor_at (by omega) (by omega) (by omega) rfl rfl | omega)
  have hw : xW G A s.heap [aucW Y h (mRaise ρ k) γ5] H locs := hw
  exact hret _ _ _ _ _ dX1_raisePrice_38 hw rfl ⟨_, rfl⟩
set_option maxHeartbeats 4000000 in
set_option maxRecDepth 20000 in
theorem k_X1_mostWanted (l : Launch) (G : va_G) (Y : Nat → Nat) (h j k : Nat) (ρ : Nat → Nat) (γ : Nat → Nat → Nat) (hI : Inv ρ) (hj : j < ρ 4) (hk : k < 3) : CtI l yX1_mostWanted cX1_mostWanted 3 .int 2 43 [.ref h, .int (nI j), .int (nI k)] [aucW Y h ρ γ] (fun r sg => r = nI (wantd ρ j k) ∧ sg = [aucW Y h ρ γ]) G Y := by
  refine x_ofI (by decide) (Nat.le_of_ble_eq_true rfl) (fun p e s m args below meth c A ls Q M hK hZ hw hl hret => ?_)
  obtain ⟨hx, hb, -⟩ := id M
  have hl : lv_has ls 3 [(0, .ref h), (1, .int (nI j)), (2, .int (nI k))] := hl
  have := hI.n6
  have := hI.over
  have := hI.keep
  have := hI.stepp
  refine lv_aload_n hx hb dX1_mostWanted_0 rfl (lv_at hl 0 rfl) ?_
  refine x_get M hK hw 0 0 rfl rfl ff_X1_30 rfl dX1_mostWanted_1 ?_
  refine lv_iload_n hx hb dX1_mostWanted_4 rfl (lv_at hl 1 rfl) ?_
  refine lv_iload_n hx hb dX1_mostWanted_5 rfl (lv_at hl 2 rfl) ?_
  refine x_cNI (As := [.int (nI j), .int (nI k)]) (k_X5_cell l G Y j k) cw_X1_72 [] M hK hZ hw hl.1 rfl (by decide) ⟨by decide, by decide⟩ ⟨Nat.zero_le _, Nat.zero_le _⟩ rfl rfl (Nat.le_of_ble_eq_true rfl) dX1_mostWanted_6 (fun r sg h_1 H locs hw => ?_)
  obtain ⟨rfl, rfl⟩ := h_1
  have hw : xW G A s.heap [aucW Y h ρ γ] H locs := hw
  refine x_iald M hK hw 0 7 rfl rfl (by omega) (by decide) dX1_mostWanted_9 ?_
  refine x_topN (n := ρ (16 + 21 * j + k)) (congrArg nI (val_at (j := j) (k := k) (by omega) (by omega) (by omega) (by omega))) ?_
  have q_2 : ρ (16 + 21 * j + k) ≤ 99999 := hI.val (j := j) (by omega) (k := k) (by omega) (by omega)
  refine lv_aload_n hx hb dX1_mostWanted_10 rfl (lv_at hl 0 rfl) ?_
  refine x_get M hK hw 0 0 rfl rfl ff_X1_18 rfl dX1_mostWanted_11 ?_
  refine lv_iload_n hx hb dX1_mostWanted_14 rfl (lv_at hl 2 rfl) ?_
  refine x_iald M hK hw 0 3 rfl rfl (by omega) (by decide) dX1_mostWanted_15 ?_
  refine x_topN (n := ρ (11 + k)) (congrArg (fun q => nI (ρ q)) (by omega)) ?_
  have q_3 : 1 ≤ ρ (11 + k) := (hI.pri (k := k) (by omega) rfl).1
  have q_4 : ρ (11 + k) ≤ 99999 := (hI.pri (k := k) (by omega) rfl).2
  refine x_cle M (tgt := 28) (by omega) (by omega) dX1_mostWanted_16 (by decide) (fun c_5 => ?_) (fun c_5 => ?_)
  · refine lv_iconst (v := (nI 0)) hx hb dX1_mostWanted_28 (by decide) ?_
    exact hret _ _ _ (nI 0) _ _ dX1_mostWanted_29 hw rfl rfl ⟨congrArg nI (by simp only [wantd]; rw [if_neg (by omega)]), rfl⟩
  refine lv_aload_n hx hb dX1_mostWanted_19 rfl (lv_at hl 0 rfl) ?_
  refine lv_iload_n hx hb dX1_mostWanted_20 rfl (lv_at hl 1 rfl) ?_
  refine lv_iload_n hx hb dX1_mostWanted_21 rfl (lv_at hl 2 rfl) ?_
  refine x_cVI (As := [.int (nI j), .int (nI k)]) (k_X1_mostLots l G Y h j k ρ γ (hI) (by omega) (by omega)) cw_X1_103 [0] 0 0 M hK hZ hw hl.1 rfl (by decide) rfl rfl rfl ⟨by decide, by decide⟩ ⟨Nat.zero_le _, Nat.zero_le _⟩ rfl rfl (Nat.le_of_ble_eq_true rfl) dX1_mostWanted_22 (fun r sg h_6 H locs hw => ?_)
  obtain ⟨rfl, rfl⟩ := h_6
  have hw : xW G A s.heap [aucW Y h ρ γ] H locs := hw
  have q_7 : most ρ j k ≤ 9 := most_le hI (by omega)
  refine lv_goto (tgt := 29) hx hb dX1_mostWanted_25 (by decide) ?_
  exact hret _ _ _ (nI (most ρ j k)) _ _ dX1_mostWanted_29 hw rfl rfl ⟨congrArg nI (by simp only [wantd]; rw [if_pos (by omega)]), rfl⟩
set_option maxHeartbeats 4000000 in
set_option maxRecDepth 20000 in
theorem k_X1_addPack (l : Launch) (G : va_G) (Y : Nat → Nat) (h j x y z v : Nat) (ρ : Nat → Nat) (γ : Nat → Nat → Nat) (hI : Inv ρ) (hj : j < ρ 4) (hp : ρ (22 + 21 * j) < 3) : CtV l yX1_addPack cX1_addPack 7 1 21 [.ref h, .int (nI j), .int (nI x), .int (nI y), .int (nI z), .int (nI v)] [aucW Y h ρ γ] (fun sg => ∃ γ' : Nat → Nat → Nat, sg = [aucW Y h (mAdd ρ j x y z v) γ']) G Y := by
  refine x_ofV (by decide) (Nat.le_of_ble_eq_true rfl) (fun p e s m args below meth c A ls Q M hK hZ hw hl hret => ?_)
  obtain ⟨hx, hb, -⟩ := id M
  have hl : lv_has ls 7 [(0, .ref h), (1, .int (nI j)), (2, .int (nI x)), (3, .int (nI y)), (4, .int (nI z)), (5, .int (nI v))] := hl
  have hp3 := hI.pck (j := j) hj rfl
  have := hI.n6
  have := hI.over
  have := hI.keep
  have := hI.stepp
  refine lv_aload_n hx hb dX1_addPack_0 rfl (lv_at hl 0 rfl) ?_
  refine x_get M hK hw 0 0 rfl rfl ff_X1_27 rfl dX1_addPack_1 ?_
  refine lv_iload_n hx hb dX1_addPack_4 rfl (lv_at hl 1 rfl) ?_
  refine lv_dup2_11 hx hb dX1_addPack_5 rfl rfl ?_
  refine x_iald M hK hw 0 6 rfl rfl (by omega) (by decide) dX1_addPack_6 ?_
  refine x_topN (n := ρ (22 + 21 * j)) (congrArg nI (pck_at (j := j) (by omega) rfl (by omega))) ?_
  have q_1 : ρ (22 + 21 * j) ≤ 3 := hI.pck (j := j) (by omega) (by omega)
  refine lv_iconst (v := (nI 1)) hx hb dX1_addPack_7 (by decide) ?_
  refine x_iadd M (n := 1 + ρ (22 + 21 * j)) dX1_addPack_8 (by omega) ?_
  refine x_iast M hK hw 0 6 rfl rfl (by omega) (by decide) dX1_addPack_9 (fun H locs hw => ?_)
  rw [upd_row] at hw
  have hw : xW G A s.heap [aucR Y h (supF ρ) (ptsF ρ) (priF ρ) (rgtF ρ γ) (capF ρ γ) (setN (pckF ρ γ) j (1 + ρ (22 + 21 * j))) (valF ρ γ) (demF ρ γ) (lotF ρ γ) (worF ρ γ) (ρ 4) (ρ 0) (ρ 1) (ρ 2) (ρ 3)] H locs := hw
  refine lv_iload_n hx hb dX1_addPack_10 rfl (lv_at hl 1 rfl) ?_
  refine lv_aload_n hx hb dX1_addPack_11 rfl (lv_at hl 0 rfl) ?_
  refine x_get M hK hw 0 0 rfl rfl ff_X1_27 rfl dX1_addPack_12 ?_
  refine lv_iload_n hx hb dX1_addPack_15 rfl (lv_at hl 1 rfl) ?_
  refine x_iald M hK hw 0 6 rfl rfl (by omega) (by decide) dX1_addPack_16 ?_
  refine x_topN (n := 1 + ρ (22 + 21 * j)) (congrArg nI setN_s) ?_
  refine x_cSI (As := [.int (nI j), .int (nI (1 + ρ (22 + 21 * j)))]) (k_X1_packCell l G Y j (1 + ρ (22 + 21 * j)) (by omega)) cw_X1_88 [] M hK hZ hw hl.1 rfl (by decide) ⟨by decide, by decide⟩ ⟨Nat.zero_le _, Nat.zero_le _⟩ rfl rfl (Nat.le_of_ble_eq_true rfl) dX1_addPack_17 (fun r sg h_2 H locs hw => ?_)
  obtain ⟨rfl, rfl⟩ := h_2
  have hw : xW G A s.heap [aucR Y h (supF ρ) (ptsF ρ) (priF ρ) (rgtF ρ γ) (capF ρ γ) (setN (pckF ρ γ) j (1 + ρ (22 + 21 * j))) (valF ρ γ) (demF ρ γ) (lotF ρ γ) (worF ρ γ) (ρ 4) (ρ 0) (ρ 1) (ρ 2) (ρ 3)] H locs := hw
  refine lv_istore (lv' := [(6, .int (nI (3 * j + ((1 + ρ (22 + 21 * j)) - 1)))), (0, .ref h), (1, .int (nI j)), (2, .int (nI x)), (3, .int (nI y)), (4, .int (nI z)), (5, .int (nI v))]) hx hb dX1_addPack_20 hl (by decide) rfl (fun ls hl => ?_)
  refine lv_aload_n hx hb dX1_addPack_22 rfl (lv_at hl 1 rfl) ?_
  refine x_get M hK hw 0 0 rfl rfl ff_X1_36 rfl dX1_addPack_23 ?_
  refine lv_iload hx hb dX1_addPack_26 (lv_at hl 0 rfl) ?_
  refine lv_iconst (v := (nI 0)) hx hb dX1_addPack_28 (by decide) ?_
  refine x_cNI (As := [.int (nI (3 * j + ((1 + ρ (22 + 21 * j)) - 1))), .int (nI 0)]) (k_X5_cell l G Y (3 * j + ((1 + ρ (22 + 21 * j)) - 1)) 0) cw_X1_72 [] M hK hZ hw hl.1 rfl (by decide) ⟨by decide, by decide⟩ ⟨Nat.zero_le _, Nat.zero_le _⟩ rfl rfl (Nat.le_of_ble_eq_true rfl) dX1_addPack_29 (fun r sg h_3 H locs hw => ?_)
  obtain ⟨rfl, rfl⟩ := h_3
  have hw : xW G A s.heap [aucR Y h (supF ρ) (ptsF ρ) (priF ρ) (rgtF ρ γ) (capF ρ γ) (setN (pckF ρ γ) j (1 + ρ (22 + 21 * j))) (valF ρ γ) (demF ρ γ) (lotF ρ γ) (worF ρ γ) (ρ 4) (ρ 0) (ρ 1) (ρ 2) (ρ 3)] H locs := hw
  refine x_topN (n := 9 * j + 3 * ((1 + ρ (22 + 21 * j)) - 1)) (congrArg nI (by omega)) ?_
  refine lv_iload_n hx hb dX1_addPack_32 rfl (lv_at hl 3 rfl) ?_
  refine x_iast M hK hw 0 9 rfl rfl (by omega) (by decide) dX1_addPack_33 (fun H locs hw => ?_)
  rw [upd_row] at hw
  have hw : xW G A s.heap [aucR Y h (supF ρ) (ptsF ρ) (priF ρ) (rgtF ρ γ) (capF ρ γ) (setN (pckF ρ γ) j (1 + ρ (22 + 21 * j))) (valF ρ γ) (demF ρ γ) (setN (lotF ρ γ) (9 * j + 3 * ((1 + ρ (22 + 21 * j)) - 1)) x) (worF ρ γ) (ρ 4) (ρ 0) (ρ 1) (ρ 2) (ρ 3)] H locs := hw
  refine lv_aload_n hx hb dX1_addPack_34 rfl (lv_at hl 1 rfl) ?_
  refine x_get M hK hw 0 0 rfl rfl ff_X1_36 rfl dX1_addPack_35 ?_
  refine lv_iload hx hb dX1_addPack_38 (lv_at hl 0 rfl) ?_
  refine lv_iconst (v := (nI 1)) hx hb dX1_addPack_40 (by decide) ?_
  refine x_cNI (As := [.int (nI (3 * j + ((1 + ρ (22 + 21 * j)) - 1))), .int (nI 1)]) (k_X5_cell l G Y (3 * j + ((1 + ρ (22 + 21 * j)) - 1)) 1) cw_X1_72 [] M hK hZ hw hl.1 rfl (by decide) ⟨by decide, by decide⟩ ⟨Nat.zero_le _, Nat.zero_le _⟩ rfl rfl (Nat.le_of_ble_eq_true rfl) dX1_addPack_41 (fun r sg h_4 H locs hw => ?_)
  obtain ⟨rfl, rfl⟩ := h_4
  have hw : xW G A s.heap [aucR Y h (supF ρ) (ptsF ρ) (priF ρ) (rgtF ρ γ) (capF ρ γ) (setN (pckF ρ γ) j (1 + ρ (22 + 21 * j))) (valF ρ γ) (demF ρ γ) (setN (lotF ρ γ) (9 * j + 3 * ((1 + ρ (22 + 21 * j)) - 1)) x) (worF ρ γ) (ρ 4) (ρ 0) (ρ 1) (ρ 2) (ρ 3)] H locs := hw
  refine x_topN (n := 1 + 9 * j + 3 * ((1 + ρ (22 + 21 * j)) - 1)) (congrArg nI (by omega)) ?_
  refine lv_iload_n hx hb dX1_addPack_44 rfl (lv_at hl 4 rfl) ?_
  refine x_iast M hK hw 0 9 rfl rfl (by omega) (by decide) dX1_addPack_45 (fun H locs hw => ?_)
  rw [upd_row] at hw
  have hw : xW G A s.heap [aucR Y h (supF ρ) (ptsF ρ) (priF ρ) (rgtF ρ γ) (capF ρ γ) (setN (pckF ρ γ) j (1 + ρ (22 + 21 * j))) (valF ρ γ) (demF ρ γ) (setN (setN (lotF ρ γ) (9 * j + 3 * ((1 + ρ (22 + 21 * j)) - 1)) x) (1 + 9 * j + 3 * ((1 + ρ (22 + 21 * j)) - 1)) y) (worF ρ γ) (ρ 4) (ρ 0) (ρ 1) (ρ 2) (ρ 3)] H locs := hw
  refine lv_aload_n hx hb dX1_addPack_46 rfl (lv_at hl 1 rfl) ?_
  refine x_get M hK hw 0 0 rfl rfl ff_X1_36 rfl dX1_addPack_47 ?_
  refine lv_iload hx hb dX1_addPack_50 (lv_at hl 0 rfl) ?_
  refine lv_iconst (v := (nI 2)) hx hb dX1_addPack_52 (by decide) ?_
  refine x_cNI (As := [.int (nI (3 * j + ((1 + ρ (22 + 21 * j)) - 1))), .int (nI 2)]) (k_X5_cell l G Y (3 * j + ((1 + ρ (22 + 21 * j)) - 1)) 2) cw_X1_72 [] M hK hZ hw hl.1 rfl (by decide) ⟨by decide, by decide⟩ ⟨Nat.zero_le _, Nat.zero_le _⟩ rfl rfl (Nat.le_of_ble_eq_true rfl) dX1_addPack_53 (fun r sg h_5 H locs hw => ?_)
  obtain ⟨rfl, rfl⟩ := h_5
  have hw : xW G A s.heap [aucR Y h (supF ρ) (ptsF ρ) (priF ρ) (rgtF ρ γ) (capF ρ γ) (setN (pckF ρ γ) j (1 + ρ (22 + 21 * j))) (valF ρ γ) (demF ρ γ) (setN (setN (lotF ρ γ) (9 * j + 3 * ((1 + ρ (22 + 21 * j)) - 1)) x) (1 + 9 * j + 3 * ((1 + ρ (22 + 21 * j)) - 1)) y) (worF ρ γ) (ρ 4) (ρ 0) (ρ 1) (ρ 2) (ρ 3)] H locs := hw
  refine x_topN (n := 2 + 9 * j + 3 * ((1 + ρ (22 + 21 * j)) - 1)) (congrArg nI (by omega)) ?_
  refine lv_iload hx hb dX1_addPack_56 (lv_at hl 5 rfl) ?_
  refine x_iast M hK hw 0 9 rfl rfl (by omega) (by decide) dX1_addPack_58 (fun H locs hw => ?_)
  rw [upd_row] at hw
  have hw : xW G A s.heap [aucR Y h (supF ρ) (ptsF ρ) (priF ρ) (rgtF ρ γ) (capF ρ γ) (setN (pckF ρ γ) j (1 + ρ (22 + 21 * j))) (valF ρ γ) (demF ρ γ) (setN (setN (setN (lotF ρ γ) (9 * j + 3 * ((1 + ρ (22 + 21 * j)) - 1)) x) (1 + 9 * j + 3 * ((1 + ρ (22 + 21 * j)) - 1)) y) (2 + 9 * j + 3 * ((1 + ρ (22 + 21 * j)) - 1)) z) (worF ρ γ) (ρ 4) (ρ 0) (ρ 1) (ρ 2) (ρ 3)] H locs := hw
  refine lv_aload_n hx hb dX1_addPack_59 rfl (lv_at hl 1 rfl) ?_
  refine x_get M hK hw 0 0 rfl rfl ff_X1_39 rfl dX1_addPack_60 ?_
  refine lv_iload hx hb dX1_addPack_63 (lv_at hl 0 rfl) ?_
  refine lv_iload hx hb dX1_addPack_65 (lv_at hl 6 rfl) ?_
  refine x_iast M hK hw 0 10 rfl rfl (by omega) (by decide) dX1_addPack_67 (fun H locs hw => ?_)
  rw [upd_row] at hw
  have hw : xW G A s.heap [aucR Y h (supF ρ) (ptsF ρ) (priF ρ) (rgtF ρ γ) (capF ρ γ) (setN (pckF ρ γ) j (1 + ρ (22 + 21 * j))) (valF ρ γ) (demF ρ γ) (setN (setN (setN (lotF ρ γ) (9 * j + 3 * ((1 + ρ (22 + 21 * j)) - 1)) x) (1 + 9 * j + 3 * ((1 + ρ (22 + 21 * j)) - 1)) y) (2 + 9 * j + 3 * ((1 + ρ (22 + 21 * j)) - 1)) z) (setN (worF ρ γ) (3 * j + ((1 + ρ (22 + 21 * j)) - 1)) v) (ρ 4) (ρ 0) (ρ 1) (ρ 2) (ρ 3)] H locs := hw
  have hN6 : (mAdd ρ j x y z v) 4 = ρ 4 := by clear hret hw hl M hK hZ hx hb; simp only [mAdd, setN, if_true, if_false, reduceIte] <;> (repeat' split) <;> first | rfl | (exfalso; omega) | omega
  obtain ⟨γ7, hw⟩ := auc_fold (i := 0) (ρ' := mAdd ρ j x y z v) hw rfl hN6.symm (by clear hret hw hl M hK hZ hx hb; simp only [mAdd, setN, if_true, if_false, reduceIte] <;> (repeat' split) <;> first | rfl | (exfalso; omega) | omega) (by clear hret hw hl M hK hZ hx hb; simp only [mAdd, setN, if_true, if_false, reduceIte] <;> (repeat' split) <;> first | rfl | (exfalso; omega) | omega) (by clear hret hw hl M hK hZ hx hb; simp only [mAdd, setN, if_true, if_false, reduceIte] <;> (repeat' split) <;> first | rfl | (exfalso; omega) | omega) (by clear hret hw hl M hK hZ hx hb; simp only [mAdd, setN, if_true, if_false, reduceIte] <;> (repeat' split) <;> first | rfl | (exfalso; omega) | omega) (by clear hret hw hl M hK hZ hx hb; intro k9 hk9; (try simp only [mAdd, setN, if_true, if_false, reduceIte, supF]) <;> (repeat' split) <;> first | rfl | (exfalso; omega) | omega) (by clear hret hw hl M hK hZ hx hb; intro k9 hk9; (try simp only [mAdd, setN, if_true, if_false, reduceIte, ptsF]) <;> (repeat' split) <;> first | rfl | (exfalso; omega) | omega) (by clear hret hw hl M hK hZ hx hb; intro k9 hk9; (try simp only [mAdd, setN, if_true, if_false, reduceIte, priF]) <;> (repeat' split) <;> first | rfl | (exfalso; omega) | omega) (by clear hret hw hl M hK hZ hx hb; intro b9 hb1; rw [hN6] at hb1; rcases Nat.lt_trichotomy b9 j with q9 | q9 | q9; (rw [mAdd_o hp (by omega)]; (repeat rw [setN_n (by omega)]); exact rgt_at (by omega) rfl rfl); (subst q9; (try simp only [mAdd, setN, if_true, if_false, reduceIte]) <;> (repeat' split) <;> first | rfl | (exfalso; omega) | exact rgt_at (by omega) rfl rfl | omega); (rw [mAdd_o hp (by omega)]; (repeat rw [setN_n (by omega)]); exact rgt_at (by omega) rfl rfl)) (by clear hret hw hl M hK hZ hx hb; intro b9 hb1; rw [hN6] at hb1; rcases Nat.lt_trichotomy b9 j with q9 | q9 | q9; (rw [mAdd_o hp (by omega)]; (repeat rw [setN_n (by omega)]); exact cap_at (by omega) rfl rfl); (subst q9; (try simp only [mAdd, setN, if_true, if_false, reduceIte]) <;> (repeat' split) <;> first | rfl | (exfalso; omega) | exact cap_at (by omega) rfl rfl | omega); (rw [mAdd_o hp (by omega)]; (repeat rw [setN_n (by omega)]); exact cap_at (by omega) rfl rfl)) (by clear hret hw hl M hK hZ hx hb; intro b9 hb1; rw [hN6] at hb1; rcases Nat.lt_trichotomy b9 j with q9 | q9 | q9; (rw [mAdd_o hp (by omega)]; (repeat rw [setN_n (by omega)]); exact pck_at (by omega) rfl rfl); (subst q9; (try simp only [mAdd, setN, if_true, if_false, reduceIte]) <;> (repeat' split) <;> first | rfl | (exfalso; omega) | exact pck_at (by omega) rfl rfl | omega); (rw [mAdd_o hp (by omega)]; (repeat rw [setN_n (by omega)]); exact pck_at (by omega) rfl rfl)) (by clear hret hw hl M hK hZ hx hb; intro b9 k9 hb1 hk9; rw [hN6] at hb1; rcases Nat.lt_trichotomy b9 j with q9 | q9 | q9; (rw [mAdd_o hp (by omega)]; (repeat rw [setN_n (by omega)]); exact val_at (by omega) (by omega) rfl rfl); (subst q9; (try simp only [mAdd, setN, if_true, if_false, reduceIte]) <;> (repeat' split) <;> first | rfl | (exfalso; omega) | exact val_at (by omega) (by omega) rfl rfl | omega); (rw [mAdd_o hp (by omega)]; (repeat rw [setN_n (by omega)]); exact val_at (by omega) (by omega) rfl rfl)) (by clear hret hw hl M hK hZ hx hb; intro b9 k9 hb1 hk9; rw [hN6] at hb1; rcases Nat.lt_trichotomy b9 j with q9 | q9 | q9; (rw [mAdd_o hp (by omega)]; (repeat rw [setN_n (by omega)]); exact dem_at (by omega) (by omega) rfl rfl); (subst q9; (try simp only [mAdd, setN, if_true, if_false, reduceIte]) <;> (repeat' split) <;> first | rfl | (exfalso; omega) | exact dem_at (by omega) (by omega) rfl rfl | omega); (rw [mAdd_o hp (by omega)]; (repeat rw [setN_n (by omega)]); exact dem_at (by omega) (by omega) rfl rfl)) (by clear hret hw hl M hK hZ hx hb; intro b9 i9 k9 hb1 hi9 h39 hk9; rw [hN6] at hb1; rcases Nat.lt_trichotomy b9 j with q9 | q9 | q9; (rw [mAdd_o hp (by omega)]; rw [mAdd_o hp (by omega)] at hi9; (repeat rw [setN_n (by omega)]); exact lot_at (by omega) (by omega) (by omega) (by omega) rfl rfl); (subst q9; simp only [mAdd, setN, if_true, if_false, reduceIte] at hi9; (try simp only [mAdd, setN, if_true, if_false, reduceIte]) <;> (repeat' split at hi9) <;> (repeat' split) <;> first | rfl | (exfalso; omega) | exact lot_at (by omega) (by omega) (by omega) (by omega) rfl rfl | omega); (rw [mAdd_o hp (by omega)]; rw [mAdd_o hp (by omega)] at hi9; (repeat rw [setN_n (by omega)]); exact lot_at (by omega) (by omega) (by omega) (by omega) rfl rfl)) (by clear hret hw hl M hK hZ hx hb; intro b9 i9 hb1 hi9 h39; rw [hN6] at hb1; rcases Nat.lt_trichotomy b9 j with q9 | q9 | q9; (rw [mAdd_o hp (by omega)]; rw [mAdd_o hp (by omega)] at hi9; (repeat rw [setN_n (by omega)]); exact wor_at (by omega) (by omega) (by omega) rfl rfl); (subst q9; simp only [mAdd, setN, if_true, if_false, reduceIte] at hi9; (try simp only [mAdd, setN, if_true, if_false, reduceIte]) <;> (repeat' split at hi9) <;> (repeat' split) <;> first | rfl | (exfalso; omega) | exact wor_at (by omega) (by omega) (by omega) rfl rfl | omega); (rw [mAdd_o hp (by omega)]; rw [mAdd_o hp (by omega)] at hi9; (repeat rw [setN_n (by omega)]); exact wor_at (by omega) (by omega) (by omega) rfl rfl))
  have hw : xW G A s.heap [aucW Y h (mAdd ρ j x y z v) γ7] H locs := hw
  exact hret _ _ _ _ _ dX1_addPack_68 hw rfl ⟨_, rfl⟩
