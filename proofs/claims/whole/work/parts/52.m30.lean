set_option maxHeartbeats 4000000 in
set_option maxRecDepth 20000 in
theorem k_X6_best (l : Launch) (G : va_G) (Y : Nat → Nat) (mo rf tx sz nw tr dy ac kp ik td ch sp ou : Nat) (ρ : Nat → Nat) (tr1 ch1 : Nat → Nat) (hI : Inv ρ) : CtI l yX6_best cX6_best 1 .int 4 101 [.ref mo] [[(mo, .inr (5, [.int (nI rf), .ref tx, .int (nI sz), .ref nw, .ref tr, .ref dy, .int (nI ac), .ref kp, .ref ik, .ref td, .ref ch, .int (nI sp), .int (nI ou)]))], [(nw, .inl (Y 0, 140, .inl (rowF ρ)))], [(td, .inl (Y 0, 6, .inl (rowF tr1)))], [(ch, .inl (Y 0, 6, .inl (rowF ch1)))]] (fun r sg => r = nI (worA ρ 0 0) ∧ ∃ (tr' : Nat → Nat) (ch' : Nat → Nat), sg = [[(mo, .inr (5, [.int (nI 0), .ref tx, .int (nI sz), .ref nw, .ref tr, .ref dy, .int (nI ac), .ref kp, .ref ik, .ref td, .ref ch, .int (nI sp), .int (nI ou)]))], [(nw, .inl (Y 0, 140, .inl (rowF ρ)))], [(td, .inl (Y 0, 6, .inl (rowF tr')))], [(ch, .inl (Y 0, 6, .inl (rowF ch')))]]) G Y := by
  refine x_ofI (by decide) (Nat.le_of_ble_eq_true rfl) (fun p e s m args below meth c A ls Q M hK hZ hw hl hret => ?_)
  obtain ⟨hx, hb, -⟩ := id M
  have hl : lv_has ls 1 [(0, .ref mo)] := hl
  have := hI.n6
  have := hI.over
  have := hI.keep
  have := hI.stepp
  refine lv_aload_n hx hb dX6_best_0 rfl (lv_at hl 0 rfl) ?_
  refine lv_iconst (v := (nI 0)) hx hb dX6_best_1 (by decide) ?_
  refine x_put M hK hw 0 0 rfl rfl fp_X6_39 rfl rfl (Nat.le_of_ble_eq_true rfl) dX6_best_2 (fun H locs hw => ?_)
  have hw : xW G A s.heap [[(mo, .inr (5, [.int (nI 0), .ref tx, .int (nI sz), .ref nw, .ref tr, .ref dy, .int (nI ac), .ref kp, .ref ik, .ref td, .ref ch, .int (nI sp), .int (nI ou)]))], [(nw, .inl (Y 0, 140, .inl (rowF ρ)))], [(td, .inl (Y 0, 6, .inl (rowF tr1)))], [(ch, .inl (Y 0, 6, .inl (rowF ch1)))]] H locs := hw
  refine lv_aload_n hx hb dX6_best_5 rfl (lv_at hl 0 rfl) ?_
  refine lv_aload_n hx hb dX6_best_6 rfl (lv_at hl 0 rfl) ?_
  refine x_get M hK hw 0 0 rfl rfl ff_X6_13 rfl dX6_best_7 ?_
  refine lv_iconst (v := (mw 0)) hx hb dX6_best_10 (by decide) ?_
  refine lv_iconst (v := (mw 0)) hx hb dX6_best_11 (by decide) ?_
  refine x_cVI (As := [.ref nw, .int (mw 0), .int (mw 0)]) (k_X6_assign l G Y mo 0 tx sz nw tr dy ac kp ik td ch sp ou nw tr1 ch1 ρ 0 0 (hI) (by omega) (by omega)) cw_X6_192 [0, 2, 3, 1] 0 0 M hK hZ hw hl.1 rfl (by decide) rfl rfl rfl ⟨by decide, by decide⟩ ⟨Nat.zero_le _, Nat.zero_le _⟩ rfl rfl (Nat.le_of_ble_eq_true rfl) dX6_best_12 (fun r sg h_1 H locs hw => ?_)
  obtain ⟨rfl, tra2, cha3, hca4, rfl⟩ := h_1
  have hw : xW G A s.heap [[(mo, .inr (5, [.int (nI 0), .ref tx, .int (nI sz), .ref nw, .ref tr, .ref dy, .int (nI ac), .ref kp, .ref ik, .ref td, .ref ch, .int (nI sp), .int (nI ou)]))], [(nw, .inl (Y 0, 140, .inl (rowF ρ)))], [(td, .inl (Y 0, 6, .inl (rowF tra2)))], [(ch, .inl (Y 0, 6, .inl (rowF cha3)))]] H locs := hw
  have q_5 : worA ρ 0 0 ≤ 16199838 := worA_le hI
  exact hret _ _ _ (nI (worA ρ 0 0)) _ _ dX6_best_15 hw rfl rfl ⟨rfl, _, _, rfl⟩
set_option maxHeartbeats 4000000 in
set_option maxRecDepth 20000 in
theorem k_X6_gets (l : Launch) (G : va_G) (Y : Nat → Nat) (mo rf tx sz nw tr dy ac kp ik td ch sp ou : Nat) (ρ : Nat → Nat) (tr1 ch1 : Nat → Nat) (j : Nat) (hI : Inv ρ) (hj : j < ρ 4) : CtI l yX6_gets cX6_gets 2 .int 4 101 [.ref mo, .int (nI j)] [[(mo, .inr (5, [.int (nI rf), .ref tx, .int (nI sz), .ref nw, .ref tr, .ref dy, .int (nI ac), .ref kp, .ref ik, .ref td, .ref ch, .int (nI sp), .int (nI ou)]))], [(nw, .inl (Y 0, 140, .inl (rowF ρ)))], [(td, .inl (Y 0, 6, .inl (rowF tr1)))], [(ch, .inl (Y 0, 6, .inl (rowF ch1)))]] (fun r sg => r = mw (choA ρ 0 0 j) ∧ ∃ (tr' : Nat → Nat) (ch' : Nat → Nat), sg = [[(mo, .inr (5, [.int (nI 0), .ref tx, .int (nI sz), .ref nw, .ref tr, .ref dy, .int (nI ac), .ref kp, .ref ik, .ref td, .ref ch, .int (nI sp), .int (nI ou)]))], [(nw, .inl (Y 0, 140, .inl (rowF ρ)))], [(td, .inl (Y 0, 6, .inl (rowF tr')))], [(ch, .inl (Y 0, 6, .inl (rowF ch')))]]) G Y := by
  refine x_ofI (by decide) (Nat.le_of_ble_eq_true rfl) (fun p e s m args below meth c A ls Q M hK hZ hw hl hret => ?_)
  obtain ⟨hx, hb, -⟩ := id M
  have hl : lv_has ls 2 [(0, .ref mo), (1, .int (nI j))] := hl
  have := hI.n6
  have := hI.over
  have := hI.keep
  have := hI.stepp
  refine lv_aload_n hx hb dX6_gets_0 rfl (lv_at hl 0 rfl) ?_
  refine lv_aload_n hx hb dX6_gets_1 rfl (lv_at hl 0 rfl) ?_
  refine x_get M hK hw 0 0 rfl rfl ff_X6_13 rfl dX6_gets_2 ?_
  refine lv_iload_n hx hb dX6_gets_5 rfl (lv_at hl 1 rfl) ?_
  refine x_cSI (As := [.ref nw, .int (nI j)]) (k_X6_isBidder l G Y nw ρ (nI j) (hI)) cw_X6_79 [1] M hK hZ hw hl.1 rfl (by decide) ⟨by decide, by decide⟩ ⟨Nat.zero_le _, Nat.zero_le _⟩ rfl rfl (Nat.le_of_ble_eq_true rfl) dX6_gets_6 (fun r sg h_1 H locs hw => ?_)
  obtain ⟨rfl, rfl⟩ := h_1
  have hw : xW G A s.heap [[(mo, .inr (5, [.int (nI rf), .ref tx, .int (nI sz), .ref nw, .ref tr, .ref dy, .int (nI ac), .ref kp, .ref ik, .ref td, .ref ch, .int (nI sp), .int (nI ou)]))], [(nw, .inl (Y 0, 140, .inl (rowF ρ)))], [(td, .inl (Y 0, 6, .inl (rowF tr1)))], [(ch, .inl (Y 0, 6, .inl (rowF ch1)))]] H locs := hw
  refine x_beq M (tgt := 16) dX6_gets_9 (by decide) (fun c_2 => absurd c_2 (fun z => pzF z (by omega) ⟨by omega, by omega⟩)) (fun c_2 => ?_)
  refine lv_iconst (v := (nI 0)) hx hb dX6_gets_12 (by decide) ?_
  refine lv_goto (tgt := 17) hx hb dX6_gets_13 (by decide) ?_
  refine x_cVI (As := [.int (nI 0)]) (k_X6_refused l G Y mo rf tx sz nw tr dy ac kp ik td ch sp ou 0 (by omega)) cw_X6_103 [0] 0 0 M hK hZ hw hl.1 rfl (by decide) rfl rfl rfl ⟨by decide, by decide⟩ ⟨Nat.zero_le _, Nat.zero_le _⟩ rfl rfl (Nat.le_of_ble_eq_true rfl) dX6_gets_17 (fun r sg h_3 H locs hw => ?_)
  obtain ⟨rfl, rfl⟩ := h_3
  have hw : xW G A s.heap [[(mo, .inr (5, [.int (nI 0), .ref tx, .int (nI sz), .ref nw, .ref tr, .ref dy, .int (nI ac), .ref kp, .ref ik, .ref td, .ref ch, .int (nI sp), .int (nI ou)]))], [(nw, .inl (Y 0, 140, .inl (rowF ρ)))], [(td, .inl (Y 0, 6, .inl (rowF tr1)))], [(ch, .inl (Y 0, 6, .inl (rowF ch1)))]] H locs := hw
  refine x_beq M (tgt := 25) dX6_gets_20 (by decide) (fun c_4 => ?_) (fun c_4 => absurd c_4 (fun z => by first | exact absurd z (by decide) | (have := of_decide_eq_true z; omega) | (have := of_decide_eq_false z; omega)))
  refine lv_aload_n hx hb dX6_gets_25 rfl (lv_at hl 0 rfl) ?_
  refine lv_aload_n hx hb dX6_gets_26 rfl (lv_at hl 0 rfl) ?_
  refine x_get M hK hw 0 0 rfl rfl ff_X6_13 rfl dX6_gets_27 ?_
  refine lv_iconst (v := (mw 0)) hx hb dX6_gets_30 (by decide) ?_
  refine lv_iconst (v := (mw 0)) hx hb dX6_gets_31 (by decide) ?_
  refine x_cVI (As := [.ref nw, .int (mw 0), .int (mw 0)]) (k_X6_assign l G Y mo 0 tx sz nw tr dy ac kp ik td ch sp ou nw tr1 ch1 ρ 0 0 (hI) (by omega) (by omega)) cw_X6_192 [0, 2, 3, 1] 0 0 M hK hZ hw hl.1 rfl (by decide) rfl rfl rfl ⟨by decide, by decide⟩ ⟨Nat.zero_le _, Nat.zero_le _⟩ rfl rfl (Nat.le_of_ble_eq_true rfl) dX6_gets_32 (fun r sg h_5 H locs hw => ?_)
  obtain ⟨rfl, tra6, cha7, hca8, rfl⟩ := h_5
  have hw : xW G A s.heap [[(mo, .inr (5, [.int (nI 0), .ref tx, .int (nI sz), .ref nw, .ref tr, .ref dy, .int (nI ac), .ref kp, .ref ik, .ref td, .ref ch, .int (nI sp), .int (nI ou)]))], [(nw, .inl (Y 0, 140, .inl (rowF ρ)))], [(td, .inl (Y 0, 6, .inl (rowF tra6)))], [(ch, .inl (Y 0, 6, .inl (rowF cha7)))]] H locs := hw
  have q_9 : worA ρ 0 0 ≤ 16199838 := worA_le hI
  refine lv_pop hx hb dX6_gets_35 rfl ?_
  refine lv_aload_n hx hb dX6_gets_36 rfl (lv_at hl 0 rfl) ?_
  refine x_get M hK hw 0 0 rfl rfl ff_X6_32 rfl dX6_gets_37 ?_
  refine lv_iload_n hx hb dX6_gets_40 rfl (lv_at hl 1 rfl) ?_
  refine x_iald M hK hw 3 0 rfl rfl (by omega) (by decide) dX6_gets_41 ?_
  refine x_topN (n := cha7 j) rfl ?_
  refine x_topN (n := choA ρ 0 0 j) (congrArg nI (hca8 j hj)) ?_
  refine lv_iconst (v := (nI 1)) hx hb dX6_gets_42 (by decide) ?_
  refine lv_isub hx hb dX6_gets_43 ?_
  refine x_topI (y := (mw (choA ρ 0 0 j))) mw_sub1 ?_
  exact hret _ _ _ (mw (choA ρ 0 0 j)) _ _ dX6_gets_44 hw rfl rfl ⟨rfl, _, _, rfl⟩
set_option maxHeartbeats 4000000 in
set_option maxRecDepth 20000 in
theorem f_X6_gets (l : Launch) (G : va_G) (Y : Nat → Nat) (mo rf tx sz nw tr dy ac kp ik td ch sp ou : Nat) (ρ : Nat → Nat) (b : Int32) (hI : Inv ρ) (hk : inZ b.toInt 0 ((ρ 4 : Int) - 1) = false) : CtI l yX6_gets cX6_gets 2 .int 2 46 [.ref mo, .int b] [[(mo, .inr (5, [.int (nI rf), .ref tx, .int (nI sz), .ref nw, .ref tr, .ref dy, .int (nI ac), .ref kp, .ref ik, .ref td, .ref ch, .int (nI sp), .int (nI ou)]))], [(nw, .inl (Y 0, 140, .inl (rowF ρ)))]] (fun r sg => r = nI 0 ∧ sg = [[(mo, .inr (5, [.int (nI 1), .ref tx, .int (nI sz), .ref nw, .ref tr, .ref dy, .int (nI ac), .ref kp, .ref ik, .ref td, .ref ch, .int (nI sp), .int (nI ou)]))], [(nw, .inl (Y 0, 140, .inl (rowF ρ)))]]) G Y := by
  refine x_ofI (by decide) (Nat.le_of_ble_eq_true rfl) (fun p e s m args below meth c A ls Q M hK hZ hw hl hret => ?_)
  obtain ⟨hx, hb, -⟩ := id M
  have hl : lv_has ls 2 [(0, .ref mo), (1, .int b)] := hl
  have := hI.n6
  have := hI.over
  have := hI.keep
  have := hI.stepp
  refine lv_aload_n hx hb dX6_gets_0 rfl (lv_at hl 0 rfl) ?_
  refine lv_aload_n hx hb dX6_gets_1 rfl (lv_at hl 0 rfl) ?_
  refine x_get M hK hw 0 0 rfl rfl ff_X6_13 rfl dX6_gets_2 ?_
  refine lv_iload_n hx hb dX6_gets_5 rfl (lv_at hl 1 rfl) ?_
  refine x_cSI (As := [.ref nw, .int b]) (k_X6_isBidder l G Y nw ρ b (hI)) cw_X6_79 [1] M hK hZ hw hl.1 rfl (by decide) ⟨by decide, by decide⟩ ⟨Nat.zero_le _, Nat.zero_le _⟩ rfl rfl (Nat.le_of_ble_eq_true rfl) dX6_gets_6 (fun r sg h_1 H locs hw => ?_)
  obtain ⟨rfl, rfl⟩ := h_1
  have hw : xW G A s.heap [[(mo, .inr (5, [.int (nI rf), .ref tx, .int (nI sz), .ref nw, .ref tr, .ref dy, .int (nI ac), .ref kp, .ref ik, .ref td, .ref ch, .int (nI sp), .int (nI ou)]))], [(nw, .inl (Y 0, 140, .inl (rowF ρ)))]] H locs := hw
  refine x_beq M (tgt := 16) dX6_gets_9 (by decide) (fun c_2 => ?_) (fun c_2 => absurd c_2 (fun z => by have h9 := z; rw [hk] at h9; exact absurd h9 (by decide)))
  refine lv_iconst (v := (nI 1)) hx hb dX6_gets_16 (by decide) ?_
  refine x_cVI (As := [.int (nI 1)]) (k_X6_refused l G Y mo rf tx sz nw tr dy ac kp ik td ch sp ou 1 (by omega)) cw_X6_103 [0] 0 0 M hK hZ hw hl.1 rfl (by decide) rfl rfl rfl ⟨by decide, by decide⟩ ⟨Nat.zero_le _, Nat.zero_le _⟩ rfl rfl (Nat.le_of_ble_eq_true rfl) dX6_gets_17 (fun r sg h_3 H locs hw => ?_)
  obtain ⟨rfl, rfl⟩ := h_3
  have hw : xW G A s.heap [[(mo, .inr (5, [.int (nI 1), .ref tx, .int (nI sz), .ref nw, .ref tr, .ref dy, .int (nI ac), .ref kp, .ref ik, .ref td, .ref ch, .int (nI sp), .int (nI ou)]))], [(nw, .inl (Y 0, 140, .inl (rowF ρ)))]] H locs := hw
  refine x_beq M (tgt := 25) dX6_gets_20 (by decide) (fun c_4 => absurd c_4 (fun z => by first | exact absurd z (by decide) | (have := of_decide_eq_true z; omega) | (have := of_decide_eq_false z; omega))) (fun c_4 => ?_)
  refine lv_iconst (v := (nI 0)) hx hb dX6_gets_23 (by decide) ?_
  exact hret _ _ _ (nI 0) _ _ dX6_gets_24 hw rfl rfl ⟨rfl, rfl⟩
set_option maxHeartbeats 4000000 in
set_option maxRecDepth 20000 in
theorem k_X6_pays (l : Launch) (G : va_G) (Y : Nat → Nat) (mo rf tx sz nw tr dy ac kp ik td ch sp ou : Nat) (ρ : Nat → Nat) (tr1 ch1 : Nat → Nat) (j : Nat) (hI : Inv ρ) (hj : j < ρ 4) : CtI l yX6_pays cX6_pays 4 .int 4 101 [.ref mo, .int (nI j)] [[(mo, .inr (5, [.int (nI rf), .ref tx, .int (nI sz), .ref nw, .ref tr, .ref dy, .int (nI ac), .ref kp, .ref ik, .ref td, .ref ch, .int (nI sp), .int (nI ou)]))], [(nw, .inl (Y 0, 140, .inl (rowF ρ)))], [(td, .inl (Y 0, 6, .inl (rowF tr1)))], [(ch, .inl (Y 0, 6, .inl (rowF ch1)))]] (fun r sg => r = nI (worA ρ (1 + j) 0) - (nI (worA ρ 0 0) - nI (wOf ρ j (choA ρ 0 0 j))) ∧ ∃ (tr' : Nat → Nat) (ch' : Nat → Nat), sg = [[(mo, .inr (5, [.int (nI 0), .ref tx, .int (nI sz), .ref nw, .ref tr, .ref dy, .int (nI ac), .ref kp, .ref ik, .ref td, .ref ch, .int (nI sp), .int (nI ou)]))], [(nw, .inl (Y 0, 140, .inl (rowF ρ)))], [(td, .inl (Y 0, 6, .inl (rowF tr')))], [(ch, .inl (Y 0, 6, .inl (rowF ch')))]]) G Y := by
  refine x_ofI (by decide) (Nat.le_of_ble_eq_true rfl) (fun p e s m args below meth c A ls Q M hK hZ hw hl hret => ?_)
  obtain ⟨hx, hb, -⟩ := id M
  have hl : lv_has ls 4 [(0, .ref mo), (1, .int (nI j))] := hl
  have := hI.n6
  have := hI.over
  have := hI.keep
  have := hI.stepp
  have hc1 := choA_ok (w := 0) (m := 0) hI (by decide) hj
  have hpk := hI.pck (j := j) hj rfl
  refine lv_aload_n hx hb dX6_pays_0 rfl (lv_at hl 0 rfl) ?_
  refine lv_aload_n hx hb dX6_pays_1 rfl (lv_at hl 0 rfl) ?_
  refine x_get M hK hw 0 0 rfl rfl ff_X6_13 rfl dX6_pays_2 ?_
  refine lv_iload_n hx hb dX6_pays_5 rfl (lv_at hl 1 rfl) ?_
  refine x_cSI (As := [.ref nw, .int (nI j)]) (k_X6_isBidder l G Y nw ρ (nI j) (hI)) cw_X6_79 [1] M hK hZ hw hl.1 rfl (by decide) ⟨by decide, by decide⟩ ⟨Nat.zero_le _, Nat.zero_le _⟩ rfl rfl (Nat.le_of_ble_eq_true rfl) dX6_pays_6 (fun r sg h_1 H locs hw => ?_)
  obtain ⟨rfl, rfl⟩ := h_1
  have hw : xW G A s.heap [[(mo, .inr (5, [.int (nI rf), .ref tx, .int (nI sz), .ref nw, .ref tr, .ref dy, .int (nI ac), .ref kp, .ref ik, .ref td, .ref ch, .int (nI sp), .int (nI ou)]))], [(nw, .inl (Y 0, 140, .inl (rowF ρ)))], [(td, .inl (Y 0, 6, .inl (rowF tr1)))], [(ch, .inl (Y 0, 6, .inl (rowF ch1)))]] H locs := hw
  refine x_beq M (tgt := 16) dX6_pays_9 (by decide) (fun c_2 => absurd c_2 (fun z => pzF z (by omega) ⟨by omega, by omega⟩)) (fun c_2 => ?_)
  refine lv_iconst (v := (nI 0)) hx hb dX6_pays_12 (by decide) ?_
  refine lv_goto (tgt := 17) hx hb dX6_pays_13 (by decide) ?_
  refine x_cVI (As := [.int (nI 0)]) (k_X6_refused l G Y mo rf tx sz nw tr dy ac kp ik td ch sp ou 0 (by omega)) cw_X6_103 [0] 0 0 M hK hZ hw hl.1 rfl (by decide) rfl rfl rfl ⟨by decide, by decide⟩ ⟨Nat.zero_le _, Nat.zero_le _⟩ rfl rfl (Nat.le_of_ble_eq_true rfl) dX6_pays_17 (fun r sg h_3 H locs hw => ?_)
  obtain ⟨rfl, rfl⟩ := h_3
  have hw : xW G A s.heap [[(mo, .inr (5, [.int (nI 0), .ref tx, .int (nI sz), .ref nw, .ref tr, .ref dy, .int (nI ac), .ref kp, .ref ik, .ref td, .ref ch, .int (nI sp), .int (nI ou)]))], [(nw, .inl (Y 0, 140, .inl (rowF ρ)))], [(td, .inl (Y 0, 6, .inl (rowF tr1)))], [(ch, .inl (Y 0, 6, .inl (rowF ch1)))]] H locs := hw
  refine x_beq M (tgt := 25) dX6_pays_20 (by decide) (fun c_4 => ?_) (fun c_4 => absurd c_4 (fun z => by first | exact absurd z (by decide) | (have := of_decide_eq_true z; omega) | (have := of_decide_eq_false z; omega)))
  refine lv_aload_n hx hb dX6_pays_25 rfl (lv_at hl 0 rfl) ?_
  refine lv_aload_n hx hb dX6_pays_26 rfl (lv_at hl 0 rfl) ?_
  refine x_get M hK hw 0 0 rfl rfl ff_X6_13 rfl dX6_pays_27 ?_
  refine lv_iconst (v := (mw 0)) hx hb dX6_pays_30 (by decide) ?_
  refine lv_iconst (v := (mw 0)) hx hb dX6_pays_31 (by decide) ?_
  refine x_cVI (As := [.ref nw, .int (mw 0), .int (mw 0)]) (k_X6_assign l G Y mo 0 tx sz nw tr dy ac kp ik td ch sp ou nw tr1 ch1 ρ 0 0 (hI) (by omega) (by omega)) cw_X6_192 [0, 2, 3, 1] 0 0 M hK hZ hw hl.1 rfl (by decide) rfl rfl rfl ⟨by decide, by decide⟩ ⟨Nat.zero_le _, Nat.zero_le _⟩ rfl rfl (Nat.le_of_ble_eq_true rfl) dX6_pays_32 (fun r sg h_5 H locs hw => ?_)
  obtain ⟨rfl, tra6, cha7, hca8, rfl⟩ := h_5
  have hw : xW G A s.heap [[(mo, .inr (5, [.int (nI 0), .ref tx, .int (nI sz), .ref nw, .ref tr, .ref dy, .int (nI ac), .ref kp, .ref ik, .ref td, .ref ch, .int (nI sp), .int (nI ou)]))], [(nw, .inl (Y 0, 140, .inl (rowF ρ)))], [(td, .inl (Y 0, 6, .inl (rowF tra6)))], [(ch, .inl (Y 0, 6, .inl (rowF cha7)))]] H locs := hw
  have q_9 : worA ρ 0 0 ≤ 16199838 := worA_le hI
  refine lv_istore_n (lv' := [(2, .int (nI (worA ρ 0 0))), (0, .ref mo), (1, .int (nI j))]) hx hb dX6_pays_35 rfl hl (by decide) rfl (fun ls hl => ?_)
  refine lv_iload_n hx hb dX6_pays_36 rfl (lv_at hl 0 rfl) ?_
  refine lv_aload_n hx hb dX6_pays_37 rfl (lv_at hl 1 rfl) ?_
  refine x_get M hK hw 0 0 rfl rfl ff_X6_32 rfl dX6_pays_38 ?_
  refine lv_iload_n hx hb dX6_pays_41 rfl (lv_at hl 2 rfl) ?_
  refine x_iald M hK hw 3 0 rfl rfl (by omega) (by decide) dX6_pays_42 ?_
  refine x_topN (n := cha7 j) rfl ?_
  refine x_topN (n := choA ρ 0 0 j) (congrArg nI (hca8 j hj)) ?_
  refine x_zne M (tgt := 50) (by omega) dX6_pays_43 (by decide) (fun c_10 => ?_) (fun c_10 => ?_)
  · refine lv_aload_n hx hb dX6_pays_50 rfl (lv_at hl 1 rfl) ?_
    refine x_get M hK hw 0 0 rfl rfl ff_X6_13 rfl dX6_pays_51 ?_
    refine lv_iload_n hx hb dX6_pays_54 rfl (lv_at hl 2 rfl) ?_
    refine lv_aload_n hx hb dX6_pays_55 rfl (lv_at hl 1 rfl) ?_
    refine x_get M hK hw 0 0 rfl rfl ff_X6_32 rfl dX6_pays_56 ?_
    refine lv_iload_n hx hb dX6_pays_59 rfl (lv_at hl 2 rfl) ?_
    refine x_iald M hK hw 3 0 rfl rfl (by omega) (by decide) dX6_pays_60 ?_
    refine x_topN (n := cha7 j) rfl ?_
    refine x_topN (n := choA ρ 0 0 j) (congrArg nI (hca8 j hj)) ?_
    refine lv_iconst (v := (nI 1)) hx hb dX6_pays_61 (by decide) ?_
    refine x_isub M (n := (choA ρ 0 0 j - 1)) dX6_pays_62 (by omega) ?_
    refine lv_iconst (v := (nI 3)) hx hb dX6_pays_63 (by decide) ?_
    refine x_cSI (As := [.ref nw, .int (nI j), .int (nI (choA ρ 0 0 j - 1)), .int (nI 3)]) (k_X6_packOf3 l G Y nw j (choA ρ 0 0 j - 1) ρ (hI) (by omega) (by omega)) cw_X6_91 [1] M hK hZ hw hl.1 rfl (by decide) ⟨by decide, by decide⟩ ⟨Nat.zero_le _, Nat.zero_le _⟩ rfl rfl (Nat.le_of_ble_eq_true rfl) dX6_pays_64 (fun r sg h_11 H locs hw => ?_)
    obtain ⟨rfl, rfl⟩ := h_11
    have hw : xW G A s.heap [[(mo, .inr (5, [.int (nI 0), .ref tx, .int (nI sz), .ref nw, .ref tr, .ref dy, .int (nI ac), .ref kp, .ref ik, .ref td, .ref ch, .int (nI sp), .int (nI ou)]))], [(nw, .inl (Y 0, 140, .inl (rowF ρ)))], [(td, .inl (Y 0, 6, .inl (rowF tra6)))], [(ch, .inl (Y 0, 6, .inl (rowF cha7)))]] H locs := hw
    have q_12 : worOf ρ j (choA ρ 0 0 j - 1) ≤ 2699973 := worOf_le hI (by omega) (by omega)
    refine x_topN (n := wOf ρ j (choA ρ 0 0 j)) (congrArg nI (by unfold wOf; rw [if_neg (by omega)])) ?_
    refine lv_isub hx hb dX6_pays_67 ?_
    refine lv_istore_n (lv' := [(3, .int ((nI (worA ρ 0 0)) - (nI (wOf ρ j (choA ρ 0 0 j))))), (2, .int (nI (worA ρ 0 0))), (0, .ref mo), (1, .int (nI j))]) hx hb dX6_pays_68 rfl hl (by decide) rfl (fun ls hl => ?_)
    refine lv_aload_n hx hb dX6_pays_69 rfl (lv_at hl 2 rfl) ?_
    refine lv_aload_n hx hb dX6_pays_70 rfl (lv_at hl 2 rfl) ?_
    refine x_get M hK hw 0 0 rfl rfl ff_X6_13 rfl dX6_pays_71 ?_
    refine lv_iload_n hx hb dX6_pays_74 rfl (lv_at hl 3 rfl) ?_
    refine x_topI (y := mw (1 + j)) mwN_1.symm ?_
    refine lv_iconst (v := (mw 0)) hx hb dX6_pays_75 (by decide) ?_
    refine x_cVI (As := [.ref nw, .int (mw (1 + j)), .int (mw 0)]) (k_X6_assign l G Y mo 0 tx sz nw tr dy ac kp ik td ch sp ou nw tra6 cha7 ρ (1 + j) 0 (hI) (by omega) (by omega)) cw_X6_192 [0, 2, 3, 1] 0 0 M hK hZ hw hl.1 rfl (by decide) rfl rfl rfl ⟨by decide, by decide⟩ ⟨Nat.zero_le _, Nat.zero_le _⟩ rfl rfl (Nat.le_of_ble_eq_true rfl) dX6_pays_76 (fun r sg h_13 H locs hw => ?_)
    obtain ⟨rfl, tra14, cha15, hca16, rfl⟩ := h_13
    have hw : xW G A s.heap [[(mo, .inr (5, [.int (nI 0), .ref tx, .int (nI sz), .ref nw, .ref tr, .ref dy, .int (nI ac), .ref kp, .ref ik, .ref td, .ref ch, .int (nI sp), .int (nI ou)]))], [(nw, .inl (Y 0, 140, .inl (rowF ρ)))], [(td, .inl (Y 0, 6, .inl (rowF tra14)))], [(ch, .inl (Y 0, 6, .inl (rowF cha15)))]] H locs := hw
    have q_17 : worA ρ (1 + j) 0 ≤ 16199838 := worA_le hI
    refine lv_iload_n hx hb dX6_pays_79 rfl (lv_at hl 0 rfl) ?_
    refine lv_isub hx hb dX6_pays_80 ?_
    exact hret _ _ _ ((nI (worA ρ (1 + j) 0)) - ((nI (worA ρ 0 0)) - (nI (wOf ρ j (choA ρ 0 0 j))))) _ _ dX6_pays_81 hw rfl rfl ⟨rfl, _, _, rfl⟩
  refine lv_iconst (v := (nI 0)) hx hb dX6_pays_46 (by decide) ?_
  refine lv_goto (tgt := 67) hx hb dX6_pays_47 (by decide) ?_
  refine x_topN (n := wOf ρ j (choA ρ 0 0 j)) (congrArg nI (by unfold wOf; rw [if_pos (by omega)])) ?_
  refine lv_isub hx hb dX6_pays_67 ?_
  refine lv_istore_n (lv' := [(3, .int ((nI (worA ρ 0 0)) - (nI (wOf ρ j (choA ρ 0 0 j))))), (2, .int (nI (worA ρ 0 0))), (0, .ref mo), (1, .int (nI j))]) hx hb dX6_pays_68 rfl hl (by decide) rfl (fun ls hl => ?_)
  refine lv_aload_n hx hb dX6_pays_69 rfl (lv_at hl 2 rfl) ?_
  refine lv_aload_n hx hb dX6_pays_70 rfl (lv_at hl 2 rfl) ?_
  refine x_get M hK hw 0 0 rfl rfl ff_X6_13 rfl dX6_pays_71 ?_
  refine lv_iload_n hx hb dX6_pays_74 rfl (lv_at hl 3 rfl) ?_
  refine x_topI (y := mw (1 + j)) mwN_1.symm ?_
  refine lv_iconst (v := (mw 0)) hx hb dX6_pays_75 (by decide) ?_
  refine x_cVI (As := [.ref nw, .int (mw (1 + j)), .int (mw 0)]) (k_X6_assign l G Y mo 0 tx sz nw tr dy ac kp ik td ch sp ou nw tra6 cha7 ρ (1 + j) 0 (hI) (by omega) (by omega)) cw_X6_192 [0, 2, 3, 1] 0 0 M hK hZ hw hl.1 rfl (by decide) rfl rfl rfl ⟨by decide, by decide⟩ ⟨Nat.zero_le _, Nat.zero_le _⟩ rfl rfl (Nat.le_of_ble_eq_true rfl) dX6_pays_76 (fun r sg h_18 H locs hw => ?_)
  obtain ⟨rfl, tra19, cha20, hca21, rfl⟩ := h_18
  have hw : xW G A s.heap [[(mo, .inr (5, [.int (nI 0), .ref tx, .int (nI sz), .ref nw, .ref tr, .ref dy, .int (nI ac), .ref kp, .ref ik, .ref td, .ref ch, .int (nI sp), .int (nI ou)]))], [(nw, .inl (Y 0, 140, .inl (rowF ρ)))], [(td, .inl (Y 0, 6, .inl (rowF tra19)))], [(ch, .inl (Y 0, 6, .inl (rowF cha20)))]] H locs := hw
  have q_22 : worA ρ (1 + j) 0 ≤ 16199838 := worA_le hI
  refine lv_iload_n hx hb dX6_pays_79 rfl (lv_at hl 0 rfl) ?_
  refine lv_isub hx hb dX6_pays_80 ?_
  exact hret _ _ _ ((nI (worA ρ (1 + j) 0)) - ((nI (worA ρ 0 0)) - (nI (wOf ρ j (choA ρ 0 0 j))))) _ _ dX6_pays_81 hw rfl rfl ⟨rfl, _, _, rfl⟩
set_option maxHeartbeats 4000000 in
set_option maxRecDepth 20000 in
theorem f_X6_pays (l : Launch) (G : va_G) (Y : Nat → Nat) (mo rf tx sz nw tr dy ac kp ik td ch sp ou : Nat) (ρ : Nat → Nat) (b : Int32) (hI : Inv ρ) (hk : inZ b.toInt 0 ((ρ 4 : Int) - 1) = false) : CtI l yX6_pays cX6_pays 4 .int 2 46 [.ref mo, .int b] [[(mo, .inr (5, [.int (nI rf), .ref tx, .int (nI sz), .ref nw, .ref tr, .ref dy, .int (nI ac), .ref kp, .ref ik, .ref td, .ref ch, .int (nI sp), .int (nI ou)]))], [(nw, .inl (Y 0, 140, .inl (rowF ρ)))]] (fun r sg => r = nI 0 ∧ sg = [[(mo, .inr (5, [.int (nI 1), .ref tx, .int (nI sz), .ref nw, .ref tr, .ref dy, .int (nI ac), .ref kp, .ref ik, .ref td, .ref ch, .int (nI sp), .int (nI ou)]))], [(nw, .inl (Y 0, 140, .inl (rowF ρ)))]]) G Y := by
  refine x_ofI (by decide) (Nat.le_of_ble_eq_true rfl) (fun p e s m args below meth c A ls Q M hK hZ hw hl hret => ?_)
  obtain ⟨hx, hb, -⟩ := id M
  have hl : lv_has ls 4 [(0, .ref mo), (1, .int b)] := hl
  have := hI.n6
  have := hI.over
  have := hI.keep
  have := hI.stepp
  refine lv_aload_n hx hb dX6_pays_0 rfl (lv_at hl 0 rfl) ?_
  refine lv_aload_n hx hb dX6_pays_1 rfl (lv_at hl 0 rfl) ?_
  refine x_get M hK hw 0 0 rfl rfl ff_X6_13 rfl dX6_pays_2 ?_
  refine lv_iload_n hx hb dX6_pays_5 rfl (lv_at hl 1 rfl) ?_
  refine x_cSI (As := [.ref nw, .int b]) (k_X6_isBidder l G Y nw ρ b (hI)) cw_X6_79 [1] M hK hZ hw hl.1 rfl (by decide) ⟨by decide, by decide⟩ ⟨Nat.zero_le _, Nat.zero_le _⟩ rfl rfl (Nat.le_of_ble_eq_true rfl) dX6_pays_6 (fun r sg h_1 H locs hw => ?_)
  obtain ⟨rfl, rfl⟩ := h_1
  have hw : xW G A s.heap [[(mo, .inr (5, [.int (nI rf), .ref tx, .int (nI sz), .ref nw, .ref tr, .ref dy, .int (nI ac), .ref kp, .ref ik, .ref td, .ref ch, .int (nI sp), .int (nI ou)]))], [(nw, .inl (Y 0, 140, .inl (rowF ρ)))]] H locs := hw
  refine x_beq M (tgt := 16) dX6_pays_9 (by decide) (fun c_2 => ?_) (fun c_2 => absurd c_2 (fun z => by have h9 := z; rw [hk] at h9; exact absurd h9 (by decide)))
  refine lv_iconst (v := (nI 1)) hx hb dX6_pays_16 (by decide) ?_
  refine x_cVI (As := [.int (nI 1)]) (k_X6_refused l G Y mo rf tx sz nw tr dy ac kp ik td ch sp ou 1 (by omega)) cw_X6_103 [0] 0 0 M hK hZ hw hl.1 rfl (by decide) rfl rfl rfl ⟨by decide, by decide⟩ ⟨Nat.zero_le _, Nat.zero_le _⟩ rfl rfl (Nat.le_of_ble_eq_true rfl) dX6_pays_17 (fun r sg h_3 H locs hw => ?_)
  obtain ⟨rfl, rfl⟩ := h_3
  have hw : xW G A s.heap [[(mo, .inr (5, [.int (nI 1), .ref tx, .int (nI sz), .ref nw, .ref tr, .ref dy, .int (nI ac), .ref kp, .ref ik, .ref td, .ref ch, .int (nI sp), .int (nI ou)]))], [(nw, .inl (Y 0, 140, .inl (rowF ρ)))]] H locs := hw
  refine x_beq M (tgt := 25) dX6_pays_20 (by decide) (fun c_4 => absurd c_4 (fun z => by first | exact absurd z (by decide) | (have := of_decide_eq_true z; omega) | (have := of_decide_eq_false z; omega))) (fun c_4 => ?_)
  refine lv_iconst (v := (nI 0)) hx hb dX6_pays_23 (by decide) ?_
  exact hret _ _ _ (nI 0) _ _ dX6_pays_24 hw rfl rfl ⟨rfl, rfl⟩
set_option maxHeartbeats 4000000 in
set_option maxRecDepth 20000 in
theorem k_X6_oneMore (l : Launch) (G : va_G) (Y : Nat → Nat) (mo rf tx sz nw tr dy ac kp ik td ch sp ou : Nat) (ρ : Nat → Nat) (tr1 ch1 : Nat → Nat) (k : Nat) (hI : Inv ρ) (hk : k < 3) : CtI l yX6_oneMore cX6_oneMore 2 .int 4 101 [.ref mo, .int (nI k)] [[(mo, .inr (5, [.int (nI rf), .ref tx, .int (nI sz), .ref nw, .ref tr, .ref dy, .int (nI ac), .ref kp, .ref ik, .ref td, .ref ch, .int (nI sp), .int (nI ou)]))], [(nw, .inl (Y 0, 140, .inl (rowF ρ)))], [(td, .inl (Y 0, 6, .inl (rowF tr1)))], [(ch, .inl (Y 0, 6, .inl (rowF ch1)))]] (fun r sg => r = nI (worA ρ 0 (1 + k)) - nI (worA ρ 0 0) ∧ ∃ (tr' : Nat → Nat) (ch' : Nat → Nat), sg = [[(mo, .inr (5, [.int (nI 0), .ref tx, .int (nI sz), .ref nw, .ref tr, .ref dy, .int (nI ac), .ref kp, .ref ik, .ref td, .ref ch, .int (nI sp), .int (nI ou)]))], [(nw, .inl (Y 0, 140, .inl (rowF ρ)))], [(td, .inl (Y 0, 6, .inl (rowF tr')))], [(ch, .inl (Y 0, 6, .inl (rowF ch')))]]) G Y := by
  refine x_ofI (by decide) (Nat.le_of_ble_eq_true rfl) (fun p e s m args below meth c A ls Q M hK hZ hw hl hret => ?_)
  obtain ⟨hx, hb, -⟩ := id M
  have hl : lv_has ls 2 [(0, .ref mo), (1, .int (nI k))] := hl
  have := hI.n6
  have := hI.over
  have := hI.keep
  have := hI.stepp
  refine lv_aload_n hx hb dX6_oneMore_0 rfl (lv_at hl 0 rfl) ?_
  refine lv_iload_n hx hb dX6_oneMore_1 rfl (lv_at hl 1 rfl) ?_
  refine x_cSI (As := [.int (nI k)]) (k_X6_isKind l G Y (nI k)) cw_X6_83 [] M hK hZ hw hl.1 rfl (by decide) ⟨by decide, by decide⟩ ⟨Nat.zero_le _, Nat.zero_le _⟩ rfl rfl (Nat.le_of_ble_eq_true rfl) dX6_oneMore_2 (fun r sg h_1 H locs hw => ?_)
  obtain ⟨rfl, rfl⟩ := h_1
  have hw : xW G A s.heap [[(mo, .inr (5, [.int (nI rf), .ref tx, .int (nI sz), .ref nw, .ref tr, .ref dy, .int (nI ac), .ref kp, .ref ik, .ref td, .ref ch, .int (nI sp), .int (nI ou)]))], [(nw, .inl (Y 0, 140, .inl (rowF ρ)))], [(td, .inl (Y 0, 6, .inl (rowF tr1)))], [(ch, .inl (Y 0, 6, .inl (rowF ch1)))]] H locs := hw
  refine x_beq M (tgt := 12) dX6_oneMore_5 (by decide) (fun c_2 => absurd c_2 (fun z => pzF z (by omega) ⟨by omega, by omega⟩)) (fun c_2 => ?_)
  refine lv_iconst (v := (nI 0)) hx hb dX6_oneMore_8 (by decide) ?_
  refine lv_goto (tgt := 13) hx hb dX6_oneMore_9 (by decide) ?_
  refine x_cVI (As := [.int (nI 0)]) (k_X6_refused l G Y mo rf tx sz nw tr dy ac kp ik td ch sp ou 0 (by omega)) cw_X6_103 [0] 0 0 M hK hZ hw hl.1 rfl (by decide) rfl rfl rfl ⟨by decide, by decide⟩ ⟨Nat.zero_le _, Nat.zero_le _⟩ rfl rfl (Nat.le_of_ble_eq_true rfl) dX6_oneMore_13 (fun r sg h_3 H locs hw => ?_)
  obtain ⟨rfl, rfl⟩ := h_3
  have hw : xW G A s.heap [[(mo, .inr (5, [.int (nI 0), .ref tx, .int (nI sz), .ref nw, .ref tr, .ref dy, .int (nI ac), .ref kp, .ref ik, .ref td, .ref ch, .int (nI sp), .int (nI ou)]))], [(nw, .inl (Y 0, 140, .inl (rowF ρ)))], [(td, .inl (Y 0, 6, .inl (rowF tr1)))], [(ch, .inl (Y 0, 6, .inl (rowF ch1)))]] H locs := hw
  refine x_beq M (tgt := 21) dX6_oneMore_16 (by decide) (fun c_4 => ?_) (fun c_4 => absurd c_4 (fun z => by first | exact absurd z (by decide) | (have := of_decide_eq_true z; omega) | (have := of_decide_eq_false z; omega)))
  refine lv_aload_n hx hb dX6_oneMore_21 rfl (lv_at hl 0 rfl) ?_
  refine lv_aload_n hx hb dX6_oneMore_22 rfl (lv_at hl 0 rfl) ?_
  refine x_get M hK hw 0 0 rfl rfl ff_X6_13 rfl dX6_oneMore_23 ?_
  refine lv_iconst (v := (mw 0)) hx hb dX6_oneMore_26 (by decide) ?_
  refine lv_iload_n hx hb dX6_oneMore_27 rfl (lv_at hl 1 rfl) ?_
  refine x_topI (y := mw (1 + k)) mwN_1.symm ?_
  refine x_cVI (As := [.ref nw, .int (mw 0), .int (mw (1 + k))]) (k_X6_assign l G Y mo 0 tx sz nw tr dy ac kp ik td ch sp ou nw tr1 ch1 ρ 0 (1 + k) (hI) (by omega) (by omega)) cw_X6_192 [0, 2, 3, 1] 0 0 M hK hZ hw hl.1 rfl (by decide) rfl rfl rfl ⟨by decide, by decide⟩ ⟨Nat.zero_le _, Nat.zero_le _⟩ rfl rfl (Nat.le_of_ble_eq_true rfl) dX6_oneMore_28 (fun r sg h_5 H locs hw => ?_)
  obtain ⟨rfl, tra6, cha7, hca8, rfl⟩ := h_5
  have hw : xW G A s.heap [[(mo, .inr (5, [.int (nI 0), .ref tx, .int (nI sz), .ref nw, .ref tr, .ref dy, .int (nI ac), .ref kp, .ref ik, .ref td, .ref ch, .int (nI sp), .int (nI ou)]))], [(nw, .inl (Y 0, 140, .inl (rowF ρ)))], [(td, .inl (Y 0, 6, .inl (rowF tra6)))], [(ch, .inl (Y 0, 6, .inl (rowF cha7)))]] H locs := hw
  have q_9 : worA ρ 0 (1 + k) ≤ 16199838 := worA_le hI
  refine lv_aload_n hx hb dX6_oneMore_31 rfl (lv_at hl 0 rfl) ?_
  refine lv_aload_n hx hb dX6_oneMore_32 rfl (lv_at hl 0 rfl) ?_
  refine x_get M hK hw 0 0 rfl rfl ff_X6_13 rfl dX6_oneMore_33 ?_
  refine lv_iconst (v := (mw 0)) hx hb dX6_oneMore_36 (by decide) ?_
  refine lv_iconst (v := (mw 0)) hx hb dX6_oneMore_37 (by decide) ?_
  refine x_cVI (As := [.ref nw, .int (mw 0), .int (mw 0)]) (k_X6_assign l G Y mo 0 tx sz nw tr dy ac kp ik td ch sp ou nw tra6 cha7 ρ 0 0 (hI) (by omega) (by omega)) cw_X6_192 [0, 2, 3, 1] 0 0 M hK hZ hw hl.1 rfl (by decide) rfl rfl rfl ⟨by decide, by decide⟩ ⟨Nat.zero_le _, Nat.zero_le _⟩ rfl rfl (Nat.le_of_ble_eq_true rfl) dX6_oneMore_38 (fun r sg h_10 H locs hw => ?_)
  obtain ⟨rfl, tra11, cha12, hca13, rfl⟩ := h_10
  have hw : xW G A s.heap [[(mo, .inr (5, [.int (nI 0), .ref tx, .int (nI sz), .ref nw, .ref tr, .ref dy, .int (nI ac), .ref kp, .ref ik, .ref td, .ref ch, .int (nI sp), .int (nI ou)]))], [(nw, .inl (Y 0, 140, .inl (rowF ρ)))], [(td, .inl (Y 0, 6, .inl (rowF tra11)))], [(ch, .inl (Y 0, 6, .inl (rowF cha12)))]] H locs := hw
  have q_14 : worA ρ 0 0 ≤ 16199838 := worA_le hI
  refine lv_isub hx hb dX6_oneMore_41 ?_
  exact hret _ _ _ ((nI (worA ρ 0 (1 + k))) - (nI (worA ρ 0 0))) _ _ dX6_oneMore_42 hw rfl rfl ⟨rfl, _, _, rfl⟩
set_option maxHeartbeats 4000000 in
set_option maxRecDepth 20000 in
theorem f_X6_oneMore (l : Launch) (G : va_G) (Y : Nat → Nat) (mo rf tx sz nw tr dy ac kp ik td ch sp ou : Nat) (ρ : Nat → Nat) (k : Int32) (hk : inZ k.toInt 0 2 = false) : CtI l yX6_oneMore cX6_oneMore 2 .int 2 45 [.ref mo, .int k] [[(mo, .inr (5, [.int (nI rf), .ref tx, .int (nI sz), .ref nw, .ref tr, .ref dy, .int (nI ac), .ref kp, .ref ik, .ref td, .ref ch, .int (nI sp), .int (nI ou)]))], [(nw, .inl (Y 0, 140, .inl (rowF ρ)))]] (fun r sg => r = nI 0 ∧ sg = [[(mo, .inr (5, [.int (nI 1), .ref tx, .int (nI sz), .ref nw, .ref tr, .ref dy, .int (nI ac), .ref kp, .ref ik, .ref td, .ref ch, .int (nI sp), .int (nI ou)]))], [(nw, .inl (Y 0, 140, .inl (rowF ρ)))]]) G Y := by
  refine x_ofI (by decide) (Nat.le_of_ble_eq_true rfl) (fun p e s m args below meth c A ls Q M hK hZ hw hl hret => ?_)
  obtain ⟨hx, hb, -⟩ := id M
  have hl : lv_has ls 2 [(0, .ref mo), (1, .int k)] := hl
  refine lv_aload_n hx hb dX6_oneMore_0 rfl (lv_at hl 0 rfl) ?_
  refine lv_iload_n hx hb dX6_oneMore_1 rfl (lv_at hl 1 rfl) ?_
  refine x_cSI (As := [.int k]) (k_X6_isKind l G Y k) cw_X6_83 [] M hK hZ hw hl.1 rfl (by decide) ⟨by decide, by decide⟩ ⟨Nat.zero_le _, Nat.zero_le _⟩ rfl rfl (Nat.le_of_ble_eq_true rfl) dX6_oneMore_2 (fun r sg h_1 H locs hw => ?_)
  obtain ⟨rfl, rfl⟩ := h_1
  have hw : xW G A s.heap [[(mo, .inr (5, [.int (nI rf), .ref tx, .int (nI sz), .ref nw, .ref tr, .ref dy, .int (nI ac), .ref kp, .ref ik, .ref td, .ref ch, .int (nI sp), .int (nI ou)]))], [(nw, .inl (Y 0, 140, .inl (rowF ρ)))]] H locs := hw
  refine x_beq M (tgt := 12) dX6_oneMore_5 (by decide) (fun c_2 => ?_) (fun c_2 => absurd c_2 (fun z => by have h9 := z; rw [hk] at h9; exact absurd h9 (by decide)))
  refine lv_iconst (v := (nI 1)) hx hb dX6_oneMore_12 (by decide) ?_
  refine x_cVI (As := [.int (nI 1)]) (k_X6_refused l G Y mo rf tx sz nw tr dy ac kp ik td ch sp ou 1 (by omega)) cw_X6_103 [0] 0 0 M hK hZ hw hl.1 rfl (by decide) rfl rfl rfl ⟨by decide, by decide⟩ ⟨Nat.zero_le _, Nat.zero_le _⟩ rfl rfl (Nat.le_of_ble_eq_true rfl) dX6_oneMore_13 (fun r sg h_3 H locs hw => ?_)
  obtain ⟨rfl, rfl⟩ := h_3
  have hw : xW G A s.heap [[(mo, .inr (5, [.int (nI 1), .ref tx, .int (nI sz), .ref nw, .ref tr, .ref dy, .int (nI ac), .ref kp, .ref ik, .ref td, .ref ch, .int (nI sp), .int (nI ou)]))], [(nw, .inl (Y 0, 140, .inl (rowF ρ)))]] H locs := hw
  refine x_beq M (tgt := 21) dX6_oneMore_16 (by decide) (fun c_4 => absurd c_4 (fun z => by first | exact absurd z (by decide) | (have := of_decide_eq_true z; omega) | (have := of_decide_eq_false z; omega))) (fun c_4 => ?_)
  refine lv_iconst (v := (nI 0)) hx hb dX6_oneMore_19 (by decide) ?_
  exact hret _ _ _ (nI 0) _ _ dX6_oneMore_20 hw rfl rfl ⟨rfl, rfl⟩
set_option maxHeartbeats 4000000 in
set_option maxRecDepth 20000 in
theorem k_X6_leastMissed (l : Launch) (G : va_G) (Y : Nat → Nat) (mo rf tx sz nw tr dy ac kp ik td ch sp ou : Nat) (ρ : Nat → Nat) (tr1 ch1 : Nat → Nat) (hI : Inv ρ) : CtI l yX6_leastMissed cX6_leastMissed 5 .int 4 101 [.ref mo] [[(mo, .inr (5, [.int (nI rf), .ref tx, .int (nI sz), .ref nw, .ref tr, .ref dy, .int (nI ac), .ref kp, .ref ik, .ref td, .ref ch, .int (nI sp), .int (nI ou)]))], [(nw, .inl (Y 0, 140, .inl (rowF ρ)))], [(td, .inl (Y 0, 6, .inl (rowF tr1)))], [(ch, .inl (Y 0, 6, .inl (rowF ch1)))]] (fun r sg => r = mw (lmS ρ (ρ 4)).1 ∧ ∃ (tr' : Nat → Nat) (ch' : Nat → Nat), sg = [[(mo, .inr (5, [.int (nI 0), .ref tx, .int (nI sz), .ref nw, .ref tr, .ref dy, .int (nI ac), .ref kp, .ref ik, .ref td, .ref ch, .int (nI sp), .int (nI ou)]))], [(nw, .inl (Y 0, 140, .inl (rowF ρ)))], [(td, .inl (Y 0, 6, .inl (rowF tr')))], [(ch, .inl (Y 0, 6, .inl (rowF ch')))]]) G Y := by
  refine x_ofI (by decide) (Nat.le_of_ble_eq_true rfl) (fun p e s m args below meth c A ls Q M hK hZ hw hl hret => ?_)
  obtain ⟨hx, hb, -⟩ := id M
  have hl : lv_has ls 5 [(0, .ref mo)] := hl
  have := hI.n6
  have := hI.over
  have := hI.keep
  have := hI.stepp
  refine lv_aload_n hx hb dX6_leastMissed_0 rfl (lv_at hl 0 rfl) ?_
  refine lv_iconst (v := (nI 0)) hx hb dX6_leastMissed_1 (by decide) ?_
  refine x_put M hK hw 0 0 rfl rfl fp_X6_39 rfl rfl (Nat.le_of_ble_eq_true rfl) dX6_leastMissed_2 (fun H locs hw => ?_)
  have hw : xW G A s.heap [[(mo, .inr (5, [.int (nI 0), .ref tx, .int (nI sz), .ref nw, .ref tr, .ref dy, .int (nI ac), .ref kp, .ref ik, .ref td, .ref ch, .int (nI sp), .int (nI ou)]))], [(nw, .inl (Y 0, 140, .inl (rowF ρ)))], [(td, .inl (Y 0, 6, .inl (rowF tr1)))], [(ch, .inl (Y 0, 6, .inl (rowF ch1)))]] H locs := hw
  refine lv_iconst (v := (mw 0)) hx hb dX6_leastMissed_5 (by decide) ?_
  refine lv_istore_n (lv' := [(1, .int (mw 0)), (0, .ref mo)]) hx hb dX6_leastMissed_6 rfl hl (by decide) rfl (fun ls hl => ?_)
  refine lv_iconst (v := (mw 0)) hx hb dX6_leastMissed_7 (by decide) ?_
  refine lv_istore_n (lv' := [(2, .int (mw 0)), (1, .int (mw 0)), (0, .ref mo)]) hx hb dX6_leastMissed_8 rfl hl (by decide) rfl (fun ls hl => ?_)
  refine lv_iconst (v := (nI 0)) hx hb dX6_leastMissed_9 (by decide) ?_
  refine lv_istore_n (lv' := [(3, .int (nI 0)), (2, .int (mw 0)), (1, .int (mw 0)), (0, .ref mo)]) hx hb dX6_leastMissed_10 rfl hl (by decide) rfl (fun ls hl => ?_)
  have L11 : ∀ (fu : Nat) (b : Nat) (tr2 : Nat → Nat) (ch2 : Nat → Nat), (ρ 4 - b < fu) → (b ≤ ρ 4) → ∀ (H : Heap) (locs : List Loc), xW G A s.heap [[(mo, .inr (5, [.int (nI 0), .ref tx, .int (nI sz), .ref nw, .ref tr, .ref dy, .int (nI ac), .ref kp, .ref ik, .ref td, .ref ch, .int (nI sp), .int (nI ou)]))], [(nw, .inl (Y 0, 140, .inl (rowF ρ)))], [(td, .inl (Y 0, 6, .inl (rowF tr2)))], [(ch, .inl (Y 0, 6, .inl (rowF ch2)))]] H locs → ∀ (ls : Array Slot), lv_has ls 5 [(0, .ref mo), (1, .int (mw (lmS ρ b).1)), (2, .int (mw (lmS ρ b).2)), (3, .int (nI b))] → W p l e (xRm 4 101) s m args below meth c H locs 0 0 Q (F0 m 11 ls []) := by
    intro fu
    induction fu with
    | zero => intro b tr2 ch2 hm; exact absurd hm (Nat.not_lt_zero _)
    | succ fu ih11 =>
      intro b tr2 ch2 hm hb1 H locs hw ls hl
      have hlm := lmS_le (b := b) hI
      refine lv_iload_n hx hb dX6_leastMissed_11 rfl (lv_at hl 3 rfl) ?_
      refine lv_aload_n hx hb dX6_leastMissed_12 rfl (lv_at hl 0 rfl) ?_
      refine x_get M hK hw 0 0 rfl rfl ff_X6_13 rfl dX6_leastMissed_13 ?_
      refine lv_iconst (v := (nI 4)) hx hb dX6_leastMissed_16 (by decide) ?_
      refine x_iald M hK hw 1 0 rfl rfl (by decide) (by decide) dX6_leastMissed_17 ?_
      refine x_topN (n := ρ 4) rfl ?_
      have q_1 : ρ 4 ≤ 6 := hI.n6
      refine x_cge M (tgt := 64) (by omega) (by omega) dX6_leastMissed_18 (by decide) (fun c_2 => ?_) (fun c_2 => ?_)
      · refine lv_iload_n hx hb dX6_leastMissed_64 rfl (lv_at hl 1 rfl) ?_
        exact hret _ _ _ (mw (lmS ρ b).1) _ _ dX6_leastMissed_65 hw rfl rfl ⟨by rw [show b = ρ 4 by omega], _, _, rfl⟩
      refine lv_aload_n hx hb dX6_leastMissed_21 rfl (lv_at hl 0 rfl) ?_
      refine lv_aload_n hx hb dX6_leastMissed_22 rfl (lv_at hl 0 rfl) ?_
      refine x_get M hK hw 0 0 rfl rfl ff_X6_13 rfl dX6_leastMissed_23 ?_
      refine lv_iload_n hx hb dX6_leastMissed_26 rfl (lv_at hl 3 rfl) ?_
      refine x_topI (y := mw (1 + b)) mwN_1.symm ?_
      refine lv_iconst (v := (mw 0)) hx hb dX6_leastMissed_27 (by decide) ?_
      refine x_cVI (As := [.ref nw, .int (mw (1 + b)), .int (mw 0)]) (k_X6_assign l G Y mo 0 tx sz nw tr dy ac kp ik td ch sp ou nw tr2 ch2 ρ (1 + b) 0 (hI) (by omega) (by omega)) cw_X6_192 [0, 2, 3, 1] 0 0 M hK hZ hw hl.1 rfl (by decide) rfl rfl rfl ⟨by decide, by decide⟩ ⟨Nat.zero_le _, Nat.zero_le _⟩ rfl rfl (Nat.le_of_ble_eq_true rfl) dX6_leastMissed_28 (fun r sg h_3 H locs hw => ?_)
      obtain ⟨rfl, tra4, cha5, hca6, rfl⟩ := h_3
      have hw : xW G A s.heap [[(mo, .inr (5, [.int (nI 0), .ref tx, .int (nI sz), .ref nw, .ref tr, .ref dy, .int (nI ac), .ref kp, .ref ik, .ref td, .ref ch, .int (nI sp), .int (nI ou)]))], [(nw, .inl (Y 0, 140, .inl (rowF ρ)))], [(td, .inl (Y 0, 6, .inl (rowF tra4)))], [(ch, .inl (Y 0, 6, .inl (rowF cha5)))]] H locs := hw
      have q_7 : worA ρ (1 + b) 0 ≤ 16199838 := worA_le hI
      refine lv_istore (lv' := [(4, .int (nI (worA ρ (1 + b) 0))), (0, .ref mo), (1, .int (mw (lmS ρ b).1)), (2, .int (mw (lmS ρ b).2)), (3, .int (nI b))]) hx hb dX6_leastMissed_31 hl (by decide) rfl (fun ls hl => ?_)
      refine lv_iload hx hb dX6_leastMissed_33 (lv_at hl 0 rfl) ?_
      refine lv_iload_n hx hb dX6_leastMissed_35 rfl (lv_at hl 3 rfl) ?_
      refine lv_icmp_le (tgt := 43) hx hb dX6_leastMissed_36 (by decide) (fun c_8 => ?_) (fun c_8 => ?_)
      · refine lv_iload_n hx hb dX6_leastMissed_43 rfl (lv_at hl 2 rfl) ?_
        refine lv_istore_n (lv' := [(1, .int (mw (lmS ρ b).1)), (4, .int (nI (worA ρ (1 + b) 0))), (0, .ref mo), (2, .int (mw (lmS ρ b).2)), (3, .int (nI b))]) hx hb dX6_leastMissed_44 rfl hl (by decide) rfl (fun ls hl => ?_)
        refine lv_iload hx hb dX6_leastMissed_45 (lv_at hl 1 rfl) ?_
        refine lv_iload_n hx hb dX6_leastMissed_47 rfl (lv_at hl 3 rfl) ?_
        refine lv_icmp_le (tgt := 56) hx hb dX6_leastMissed_48 (by decide) (fun c_9 => ?_) (fun c_9 => absurd c_9 (fun z => z c_8))
        refine lv_iload_n hx hb dX6_leastMissed_56 rfl (lv_at hl 3 rfl) ?_
        refine lv_istore_n (lv' := [(2, .int (mw (lmS ρ b).2)), (1, .int (mw (lmS ρ b).1)), (4, .int (nI (worA ρ (1 + b) 0))), (0, .ref mo), (3, .int (nI b))]) hx hb dX6_leastMissed_57 rfl hl (by decide) rfl (fun ls hl => ?_)
        have hq := (nI_le_mw (by omega) (by omega)).mp c_8
        have hL : lmS ρ (1 + b) = lmS ρ b := by rw [lmS_1, if_neg (by omega)]
        have hl : lv_has ls 5 [(2, .int (mw (lmS ρ (1 + b)).2)), (1, .int (mw (lmS ρ (1 + b)).1)), (4, .int (nI (worA ρ (1 + b) 0))), (0, .ref mo), (3, .int (nI b))] := by rw [hL]; exact hl
        refine lv_iinc (v := (nI (1 + b))) (lv' := [(3, .int (nI (1 + b))), (2, .int (mw (lmS ρ (1 + b)).2)), (1, .int (mw (lmS ρ (1 + b)).1)), (4, .int (nI (worA ρ (1 + b) 0))), (0, .ref mo)]) hx hb dX6_leastMissed_58 hl (k := 4) rfl (by rw [show (1 : Int) = ((1 : Nat) : Int) from rfl, nI_inc]; exact congrArg nI (by omega)) (by decide) rfl (fun ls hl => ?_)
        refine lv_goto (tgt := 11) hx hb dX6_leastMissed_61 (by decide) ?_
        exact ih11 (1 + b) tra4 cha5 (by omega) (by omega) _ _ hw _ (lv_sub hl [4, 2, 1, 0] rfl)
      refine lv_iload_n hx hb dX6_leastMissed_39 rfl (lv_at hl 4 rfl) ?_
      refine x_topI (y := mw (1 + b)) mwN_1.symm ?_
      refine lv_goto (tgt := 44) hx hb dX6_leastMissed_40 (by decide) ?_
      refine lv_istore_n (lv' := [(1, .int (mw (1 + b))), (4, .int (nI (worA ρ (1 + b) 0))), (0, .ref mo), (2, .int (mw (lmS ρ b).2)), (3, .int (nI b))]) hx hb dX6_leastMissed_44 rfl hl (by decide) rfl (fun ls hl => ?_)
      refine lv_iload hx hb dX6_leastMissed_45 (lv_at hl 1 rfl) ?_
      refine lv_iload_n hx hb dX6_leastMissed_47 rfl (lv_at hl 3 rfl) ?_
      refine lv_icmp_le (tgt := 56) hx hb dX6_leastMissed_48 (by decide) (fun c_10 => absurd c_10 (c_8)) (fun c_10 => ?_)
      refine lv_iload hx hb dX6_leastMissed_51 (lv_at hl 1 rfl) ?_
      refine x_topI (y := mw (1 + worA ρ (1 + b) 0)) mwN_1.symm ?_
      refine lv_goto (tgt := 57) hx hb dX6_leastMissed_53 (by decide) ?_
      refine lv_istore_n (lv' := [(2, .int (mw (1 + worA ρ (1 + b) 0))), (1, .int (mw (1 + b))), (4, .int (nI (worA ρ (1 + b) 0))), (0, .ref mo), (3, .int (nI b))]) hx hb dX6_leastMissed_57 rfl hl (by decide) rfl (fun ls hl => ?_)
      have hq := mt (nI_le_mw (by omega) (by omega)).mpr c_8
      have hL : lmS ρ (1 + b) = (1 + b, 1 + worA ρ (1 + b) 0) := by rw [lmS_1, if_pos (by omega)]
      have hl : lv_has ls 5 [(2, .int (mw (lmS ρ (1 + b)).2)), (1, .int (mw (lmS ρ (1 + b)).1)), (4, .int (nI (worA ρ (1 + b) 0))), (0, .ref mo), (3, .int (nI b))] := by rw [hL]; show lv_has ls 5 [(2, .int (mw (1 + worA ρ (1 + b) 0))), (1, .int (mw (1 + b))), (4, .int (nI (worA ρ (1 + b) 0))), (0, .ref mo), (3, .int (nI b))]; exact hl
      refine lv_iinc (v := (nI (1 + b))) (lv' := [(3, .int (nI (1 + b))), (2, .int (mw (lmS ρ (1 + b)).2)), (1, .int (mw (lmS ρ (1 + b)).1)), (4, .int (nI (worA ρ (1 + b) 0))), (0, .ref mo)]) hx hb dX6_leastMissed_58 hl (k := 4) rfl (by rw [show (1 : Int) = ((1 : Nat) : Int) from rfl, nI_inc]; exact congrArg nI (by omega)) (by decide) rfl (fun ls hl => ?_)
      refine lv_goto (tgt := 11) hx hb dX6_leastMissed_61 (by decide) ?_
      exact ih11 (1 + b) tra4 cha5 (by omega) (by omega) _ _ hw _ (lv_sub hl [4, 2, 1, 0] rfl)
  exact L11 (ρ 4 - 0 + 1) 0 tr1 ch1 (Nat.lt_succ_self _) (by omega) _ _ hw _ (lv_sub hl [3, 2, 1, 0] rfl)
set_option maxHeartbeats 4000000 in
set_option maxRecDepth 20000 in
theorem k_X6_wouldAsk (l : Launch) (G : va_G) (Y : Nat → Nat) (mo rf tx sz nw tr dy ac kp ik td ch sp ou : Nat) (ρ : Nat → Nat) (φ : Nat → Nat) (j k : Nat) (hI : Inv ρ) (hj : j < ρ 4) (hk : k < 3) : CtI l yX6_wouldAsk cX6_wouldAsk 3 .int 3 74 [.ref mo, .int (nI j), .int (nI k)] [[(mo, .inr (5, [.int (nI rf), .ref tx, .int (nI sz), .ref nw, .ref tr, .ref dy, .int (nI ac), .ref kp, .ref ik, .ref td, .ref ch, .int (nI sp), .int (nI ou)]))], [(nw, .inl (Y 0, 140, .inl (rowF ρ)))], [(tr, .inl (Y 0, 140, .inl (rowF φ)))]] (fun r sg => r = nI ((mBid ρ j) (19 + 21 * j + k)) ∧ sg = [[(mo, .inr (5, [.int (nI 0), .ref tx, .int (nI sz), .ref nw, .ref tr, .ref dy, .int (nI ac), .ref kp, .ref ik, .ref td, .ref ch, .int (nI sp), .int (nI ou)]))], [(nw, .inl (Y 0, 140, .inl (rowF ρ)))], [(tr, .inl (Y 0, 140, .inl (rowF (mBid ρ j))))]]) G Y := by
  refine x_ofI (by decide) (Nat.le_of_ble_eq_true rfl) (fun p e s m args below meth c A ls Q M hK hZ hw hl hret => ?_)
  obtain ⟨hx, hb, -⟩ := id M
  have hl : lv_has ls 3 [(0, .ref mo), (1, .int (nI j)), (2, .int (nI k))] := hl
  have := hI.n6
  have := hI.over
  have := hI.keep
  have := hI.stepp
  refine lv_aload_n hx hb dX6_wouldAsk_0 rfl (lv_at hl 0 rfl) ?_
  refine lv_aload_n hx hb dX6_wouldAsk_1 rfl (lv_at hl 0 rfl) ?_
  refine x_get M hK hw 0 0 rfl rfl ff_X6_13 rfl dX6_wouldAsk_2 ?_
  refine lv_iload_n hx hb dX6_wouldAsk_5 rfl (lv_at hl 1 rfl) ?_
  refine x_cSI (As := [.ref nw, .int (nI j)]) (k_X6_isBidder l G Y nw ρ (nI j) (hI)) cw_X6_79 [1] M hK hZ hw hl.1 rfl (by decide) ⟨by decide, by decide⟩ ⟨Nat.zero_le _, Nat.zero_le _⟩ rfl rfl (Nat.le_of_ble_eq_true rfl) dX6_wouldAsk_6 (fun r sg h_1 H locs hw => ?_)
  obtain ⟨rfl, rfl⟩ := h_1
  have hw : xW G A s.heap [[(mo, .inr (5, [.int (nI rf), .ref tx, .int (nI sz), .ref nw, .ref tr, .ref dy, .int (nI ac), .ref kp, .ref ik, .ref td, .ref ch, .int (nI sp), .int (nI ou)]))], [(nw, .inl (Y 0, 140, .inl (rowF ρ)))], [(tr, .inl (Y 0, 140, .inl (rowF φ)))]] H locs := hw
  refine x_beq M (tgt := 23) dX6_wouldAsk_9 (by decide) (fun c_2 => absurd c_2 (fun z => pzF z (by omega) ⟨by omega, by omega⟩)) (fun c_2 => ?_)
  refine lv_iload_n hx hb dX6_wouldAsk_12 rfl (lv_at hl 2 rfl) ?_
  refine x_cSI (As := [.int (nI k)]) (k_X6_isKind l G Y (nI k)) cw_X6_83 [] M hK hZ hw hl.1 rfl (by decide) ⟨by decide, by decide⟩ ⟨Nat.zero_le _, Nat.zero_le _⟩ rfl rfl (Nat.le_of_ble_eq_true rfl) dX6_wouldAsk_13 (fun r sg h_3 H locs hw => ?_)
  obtain ⟨rfl, rfl⟩ := h_3
  have hw : xW G A s.heap [[(mo, .inr (5, [.int (nI rf), .ref tx, .int (nI sz), .ref nw, .ref tr, .ref dy, .int (nI ac), .ref kp, .ref ik, .ref td, .ref ch, .int (nI sp), .int (nI ou)]))], [(nw, .inl (Y 0, 140, .inl (rowF ρ)))], [(tr, .inl (Y 0, 140, .inl (rowF φ)))]] H locs := hw
  refine x_beq M (tgt := 23) dX6_wouldAsk_16 (by decide) (fun c_4 => absurd c_4 (fun z => pzF z (by omega) ⟨by omega, by omega⟩)) (fun c_4 => ?_)
  refine lv_iconst (v := (nI 0)) hx hb dX6_wouldAsk_19 (by decide) ?_
  refine lv_goto (tgt := 24) hx hb dX6_wouldAsk_20 (by decide) ?_
  refine x_cVI (As := [.int (nI 0)]) (k_X6_refused l G Y mo rf tx sz nw tr dy ac kp ik td ch sp ou 0 (by omega)) cw_X6_103 [0] 0 0 M hK hZ hw hl.1 rfl (by decide) rfl rfl rfl ⟨by decide, by decide⟩ ⟨Nat.zero_le _, Nat.zero_le _⟩ rfl rfl (Nat.le_of_ble_eq_true rfl) dX6_wouldAsk_24 (fun r sg h_5 H locs hw => ?_)
  obtain ⟨rfl, rfl⟩ := h_5
  have hw : xW G A s.heap [[(mo, .inr (5, [.int (nI 0), .ref tx, .int (nI sz), .ref nw, .ref tr, .ref dy, .int (nI ac), .ref kp, .ref ik, .ref td, .ref ch, .int (nI sp), .int (nI ou)]))], [(nw, .inl (Y 0, 140, .inl (rowF ρ)))], [(tr, .inl (Y 0, 140, .inl (rowF φ)))]] H locs := hw
  refine x_beq M (tgt := 32) dX6_wouldAsk_27 (by decide) (fun c_6 => ?_) (fun c_6 => absurd c_6 (fun z => by first | exact absurd z (by decide) | (have := of_decide_eq_true z; omega) | (have := of_decide_eq_false z; omega)))
  refine lv_aload_n hx hb dX6_wouldAsk_32 rfl (lv_at hl 0 rfl) ?_
  refine x_get M hK hw 0 0 rfl rfl ff_X6_13 rfl dX6_wouldAsk_33 ?_
  refine lv_iconst (v := (nI 0)) hx hb dX6_wouldAsk_36 (by decide) ?_
  refine lv_aload_n hx hb dX6_wouldAsk_37 rfl (lv_at hl 0 rfl) ?_
  refine x_get M hK hw 0 0 rfl rfl ff_X6_16 rfl dX6_wouldAsk_38 ?_
  refine lv_iconst (v := (nI 0)) hx hb dX6_wouldAsk_41 (by decide) ?_
  refine x_cSV (As := [.ref nw, .int (nI 0), .ref tr, .int (nI 0)]) (k_X6_copyState l G Y nw tr 140 140 0 0 ρ φ (by omega) (by omega) (by omega) (by omega)) cw_X6_154 [1, 2] M hK hZ hw hl.1 rfl (by decide) ⟨by decide, by decide⟩ ⟨Nat.zero_le _, Nat.zero_le _⟩ rfl rfl (Nat.le_of_ble_eq_true rfl) dX6_wouldAsk_42 (fun sg h_7 H locs hw => ?_)
  obtain rfl := h_7
  have hw : xW G A s.heap [[(mo, .inr (5, [.int (nI 0), .ref tx, .int (nI sz), .ref nw, .ref tr, .ref dy, .int (nI ac), .ref kp, .ref ik, .ref td, .ref ch, .int (nI sp), .int (nI ou)]))], [(nw, .inl (Y 0, 140, .inl (rowF ρ)))], [(tr, .inl (Y 0, 140, .inl (rowF (cpS ρ φ 0 0 140))))]] H locs := hw
  have hw := row_fold (i := 2) (f' := rowF ρ) hw rfl (fun q hq => congrArg nI (by clear hret hw hl M hK hZ hx hb; have h9 := cpS_in (f := ρ) (g := φ) (fa := 0) (ta := 0) (k := q) (m := 140) hq; simp only [Nat.zero_add] at h9; exact h9.symm))
  have hw : xW G A s.heap [[(mo, .inr (5, [.int (nI 0), .ref tx, .int (nI sz), .ref nw, .ref tr, .ref dy, .int (nI ac), .ref kp, .ref ik, .ref td, .ref ch, .int (nI sp), .int (nI ou)]))], [(nw, .inl (Y 0, 140, .inl (rowF ρ)))], [(tr, .inl (Y 0, 140, .inl (rowF ρ)))]] H locs := hw
  refine lv_aload_n hx hb dX6_wouldAsk_45 rfl (lv_at hl 0 rfl) ?_
  refine x_get M hK hw 0 0 rfl rfl ff_X6_16 rfl dX6_wouldAsk_46 ?_
  refine lv_iload_n hx hb dX6_wouldAsk_49 rfl (lv_at hl 1 rfl) ?_
  refine x_cSI (As := [.ref tr, .int (nI j)]) (k_X6_bidOn l G Y tr j ρ (hI) (by omega)) cw_X6_131 [2] M hK hZ hw hl.1 rfl (by decide) ⟨by decide, by decide⟩ ⟨Nat.zero_le _, Nat.zero_le _⟩ rfl rfl (Nat.le_of_ble_eq_true rfl) dX6_wouldAsk_50 (fun r sg h_8 H locs hw => ?_)
  obtain ⟨rfl, rfl⟩ := h_8
  have hw : xW G A s.heap [[(mo, .inr (5, [.int (nI 0), .ref tx, .int (nI sz), .ref nw, .ref tr, .ref dy, .int (nI ac), .ref kp, .ref ik, .ref td, .ref ch, .int (nI sp), .int (nI ou)]))], [(nw, .inl (Y 0, 140, .inl (rowF ρ)))], [(tr, .inl (Y 0, 140, .inl (rowF (mBid ρ j))))]] H locs := hw
  have hI2 := Inv_mBid hI hj
  have e4 : (mBid ρ j) 4 = ρ 4 := bid_4
  refine lv_pop hx hb dX6_wouldAsk_53 rfl ?_
  refine lv_aload_n hx hb dX6_wouldAsk_54 rfl (lv_at hl 0 rfl) ?_
  refine x_get M hK hw 0 0 rfl rfl ff_X6_16 rfl dX6_wouldAsk_55 ?_
  refine lv_iload_n hx hb dX6_wouldAsk_58 rfl (lv_at hl 1 rfl) ?_
  refine x_cSI (As := [.int (nI j)]) (k_X6_at l G Y j) cw_X6_49 [] M hK hZ hw hl.1 rfl (by decide) ⟨by decide, by decide⟩ ⟨Nat.zero_le _, Nat.zero_le _⟩ rfl rfl (Nat.le_of_ble_eq_true rfl) dX6_wouldAsk_59 (fun r sg h_9 H locs hw => ?_)
  obtain ⟨rfl, rfl⟩ := h_9
  have hw : xW G A s.heap [[(mo, .inr (5, [.int (nI 0), .ref tx, .int (nI sz), .ref nw, .ref tr, .ref dy, .int (nI ac), .ref kp, .ref ik, .ref td, .ref ch, .int (nI sp), .int (nI ou)]))], [(nw, .inl (Y 0, 140, .inl (rowF ρ)))], [(tr, .inl (Y 0, 140, .inl (rowF (mBid ρ j))))]] H locs := hw
  refine lv_iconst (v := (nI 5)) hx hb dX6_wouldAsk_62 (by decide) ?_
  refine x_iadd M (n := 19 + 21 * j) dX6_wouldAsk_63 (by omega) ?_
  refine lv_iload_n hx hb dX6_wouldAsk_64 rfl (lv_at hl 2 rfl) ?_
  refine x_iadd M (n := 19 + 21 * j + k) dX6_wouldAsk_65 rfl ?_
  refine x_iald M hK hw 2 0 rfl rfl (by omega) (by decide) dX6_wouldAsk_66 ?_
  refine x_topN (n := (mBid ρ j) (19 + 21 * j + k)) rfl ?_
  have q_10 : (mBid ρ j) (19 + 21 * j + k) ≤ 9 := hI2.dem (j := j) (by omega) (k := k) (by omega) (by omega)
  exact hret _ _ _ (nI ((mBid ρ j) (19 + 21 * j + k))) _ _ dX6_wouldAsk_67 hw rfl rfl ⟨rfl, rfl⟩
set_option maxHeartbeats 4000000 in
set_option maxRecDepth 20000 in
theorem f_X6_wouldAsk_1 (l : Launch) (G : va_G) (Y : Nat → Nat) (mo rf tx sz nw tr dy ac kp ik td ch sp ou : Nat) (ρ : Nat → Nat) (b k : Int32) (hI : Inv ρ) (hk : inZ b.toInt 0 ((ρ 4 : Int) - 1) = false) : CtI l yX6_wouldAsk cX6_wouldAsk 3 .int 2 46 [.ref mo, .int b, .int k] [[(mo, .inr (5, [.int (nI rf), .ref tx, .int (nI sz), .ref nw, .ref tr, .ref dy, .int (nI ac), .ref kp, .ref ik, .ref td, .ref ch, .int (nI sp), .int (nI ou)]))], [(nw, .inl (Y 0, 140, .inl (rowF ρ)))]] (fun r sg => r = nI 0 ∧ sg = [[(mo, .inr (5, [.int (nI 1), .ref tx, .int (nI sz), .ref nw, .ref tr, .ref dy, .int (nI ac), .ref kp, .ref ik, .ref td, .ref ch, .int (nI sp), .int (nI ou)]))], [(nw, .inl (Y 0, 140, .inl (rowF ρ)))]]) G Y := by
  refine x_ofI (by decide) (Nat.le_of_ble_eq_true rfl) (fun p e s m args below meth c A ls Q M hK hZ hw hl hret => ?_)
  obtain ⟨hx, hb, -⟩ := id M
  have hl : lv_has ls 3 [(0, .ref mo), (1, .int b), (2, .int k)] := hl
  have := hI.n6
  have := hI.over
  have := hI.keep
  have := hI.stepp
  refine lv_aload_n hx hb dX6_wouldAsk_0 rfl (lv_at hl 0 rfl) ?_
  refine lv_aload_n hx hb dX6_wouldAsk_1 rfl (lv_at hl 0 rfl) ?_
  refine x_get M hK hw 0 0 rfl rfl ff_X6_13 rfl dX6_wouldAsk_2 ?_
  refine lv_iload_n hx hb dX6_wouldAsk_5 rfl (lv_at hl 1 rfl) ?_
  refine x_cSI (As := [.ref nw, .int b]) (k_X6_isBidder l G Y nw ρ b (hI)) cw_X6_79 [1] M hK hZ hw hl.1 rfl (by decide) ⟨by decide, by decide⟩ ⟨Nat.zero_le _, Nat.zero_le _⟩ rfl rfl (Nat.le_of_ble_eq_true rfl) dX6_wouldAsk_6 (fun r sg h_1 H locs hw => ?_)
  obtain ⟨rfl, rfl⟩ := h_1
  have hw : xW G A s.heap [[(mo, .inr (5, [.int (nI rf), .ref tx, .int (nI sz), .ref nw, .ref tr, .ref dy, .int (nI ac), .ref kp, .ref ik, .ref td, .ref ch, .int (nI sp), .int (nI ou)]))], [(nw, .inl (Y 0, 140, .inl (rowF ρ)))]] H locs := hw
  refine x_beq M (tgt := 23) dX6_wouldAsk_9 (by decide) (fun c_2 => ?_) (fun c_2 => absurd c_2 (fun z => by have h9 := z; rw [hk] at h9; exact absurd h9 (by decide)))
  refine lv_iconst (v := (nI 1)) hx hb dX6_wouldAsk_23 (by decide) ?_
  refine x_cVI (As := [.int (nI 1)]) (k_X6_refused l G Y mo rf tx sz nw tr dy ac kp ik td ch sp ou 1 (by omega)) cw_X6_103 [0] 0 0 M hK hZ hw hl.1 rfl (by decide) rfl rfl rfl ⟨by decide, by decide⟩ ⟨Nat.zero_le _, Nat.zero_le _⟩ rfl rfl (Nat.le_of_ble_eq_true rfl) dX6_wouldAsk_24 (fun r sg h_3 H locs hw => ?_)
  obtain ⟨rfl, rfl⟩ := h_3
  have hw : xW G A s.heap [[(mo, .inr (5, [.int (nI 1), .ref tx, .int (nI sz), .ref nw, .ref tr, .ref dy, .int (nI ac), .ref kp, .ref ik, .ref td, .ref ch, .int (nI sp), .int (nI ou)]))], [(nw, .inl (Y 0, 140, .inl (rowF ρ)))]] H locs := hw
  refine x_beq M (tgt := 32) dX6_wouldAsk_27 (by decide) (fun c_4 => absurd c_4 (fun z => by first | exact absurd z (by decide) | (have := of_decide_eq_true z; omega) | (have := of_decide_eq_false z; omega))) (fun c_4 => ?_)
  refine lv_iconst (v := (nI 0)) hx hb dX6_wouldAsk_30 (by decide) ?_
  exact hret _ _ _ (nI 0) _ _ dX6_wouldAsk_31 hw rfl rfl ⟨rfl, rfl⟩
set_option maxHeartbeats 4000000 in
set_option maxRecDepth 20000 in
theorem f_X6_wouldAsk_2 (l : Launch) (G : va_G) (Y : Nat → Nat) (mo rf tx sz nw tr dy ac kp ik td ch sp ou : Nat) (ρ : Nat → Nat) (j : Nat) (k : Int32) (hI : Inv ρ) (hj : j < ρ 4) (hk : inZ k.toInt 0 2 = false) : CtI l yX6_wouldAsk cX6_wouldAsk 3 .int 2 46 [.ref mo, .int (nI j), .int k] [[(mo, .inr (5, [.int (nI rf), .ref tx, .int (nI sz), .ref nw, .ref tr, .ref dy, .int (nI ac), .ref kp, .ref ik, .ref td, .ref ch, .int (nI sp), .int (nI ou)]))], [(nw, .inl (Y 0, 140, .inl (rowF ρ)))]] (fun r sg => r = nI 0 ∧ sg = [[(mo, .inr (5, [.int (nI 1), .ref tx, .int (nI sz), .ref nw, .ref tr, .ref dy, .int (nI ac), .ref kp, .ref ik, .ref td, .ref ch, .int (nI sp), .int (nI ou)]))], [(nw, .inl (Y 0, 140, .inl (rowF ρ)))]]) G Y := by
  refine x_ofI (by decide) (Nat.le_of_ble_eq_true rfl) (fun p e s m args below meth c A ls Q M hK hZ hw hl hret => ?_)
  obtain ⟨hx, hb, -⟩ := id M
  have hl : lv_has ls 3 [(0, .ref mo), (1, .int (nI j)), (2, .int k)] := hl
  have := hI.n6
  have := hI.over
  have := hI.keep
  have := hI.stepp
  refine lv_aload_n hx hb dX6_wouldAsk_0 rfl (lv_at hl 0 rfl) ?_
  refine lv_aload_n hx hb dX6_wouldAsk_1 rfl (lv_at hl 0 rfl) ?_
  refine x_get M hK hw 0 0 rfl rfl ff_X6_13 rfl dX6_wouldAsk_2 ?_
  refine lv_iload_n hx hb dX6_wouldAsk_5 rfl (lv_at hl 1 rfl) ?_
  refine x_cSI (As := [.ref nw, .int (nI j)]) (k_X6_isBidder l G Y nw ρ (nI j) (hI)) cw_X6_79 [1] M hK hZ hw hl.1 rfl (by decide) ⟨by decide, by decide⟩ ⟨Nat.zero_le _, Nat.zero_le _⟩ rfl rfl (Nat.le_of_ble_eq_true rfl) dX6_wouldAsk_6 (fun r sg h_1 H locs hw => ?_)
  obtain ⟨rfl, rfl⟩ := h_1
  have hw : xW G A s.heap [[(mo, .inr (5, [.int (nI rf), .ref tx, .int (nI sz), .ref nw, .ref tr, .ref dy, .int (nI ac), .ref kp, .ref ik, .ref td, .ref ch, .int (nI sp), .int (nI ou)]))], [(nw, .inl (Y 0, 140, .inl (rowF ρ)))]] H locs := hw
  refine x_beq M (tgt := 23) dX6_wouldAsk_9 (by decide) (fun c_2 => absurd c_2 (fun z => pzF z (by omega) ⟨by omega, by omega⟩)) (fun c_2 => ?_)
  refine lv_iload_n hx hb dX6_wouldAsk_12 rfl (lv_at hl 2 rfl) ?_
  refine x_cSI (As := [.int k]) (k_X6_isKind l G Y k) cw_X6_83 [] M hK hZ hw hl.1 rfl (by decide) ⟨by decide, by decide⟩ ⟨Nat.zero_le _, Nat.zero_le _⟩ rfl rfl (Nat.le_of_ble_eq_true rfl) dX6_wouldAsk_13 (fun r sg h_3 H locs hw => ?_)
  obtain ⟨rfl, rfl⟩ := h_3
  have hw : xW G A s.heap [[(mo, .inr (5, [.int (nI rf), .ref tx, .int (nI sz), .ref nw, .ref tr, .ref dy, .int (nI ac), .ref kp, .ref ik, .ref td, .ref ch, .int (nI sp), .int (nI ou)]))], [(nw, .inl (Y 0, 140, .inl (rowF ρ)))]] H locs := hw
  refine x_beq M (tgt := 23) dX6_wouldAsk_16 (by decide) (fun c_4 => ?_) (fun c_4 => absurd c_4 (fun z => by have h9 := z; rw [hk] at h9; exact absurd h9 (by decide)))
  refine lv_iconst (v := (nI 1)) hx hb dX6_wouldAsk_23 (by decide) ?_
  refine x_cVI (As := [.int (nI 1)]) (k_X6_refused l G Y mo rf tx sz nw tr dy ac kp ik td ch sp ou 1 (by omega)) cw_X6_103 [0] 0 0 M hK hZ hw hl.1 rfl (by decide) rfl rfl rfl ⟨by decide, by decide⟩ ⟨Nat.zero_le _, Nat.zero_le _⟩ rfl rfl (Nat.le_of_ble_eq_true rfl) dX6_wouldAsk_24 (fun r sg h_5 H locs hw => ?_)
  obtain ⟨rfl, rfl⟩ := h_5
  have hw : xW G A s.heap [[(mo, .inr (5, [.int (nI 1), .ref tx, .int (nI sz), .ref nw, .ref tr, .ref dy, .int (nI ac), .ref kp, .ref ik, .ref td, .ref ch, .int (nI sp), .int (nI ou)]))], [(nw, .inl (Y 0, 140, .inl (rowF ρ)))]] H locs := hw
  refine x_beq M (tgt := 32) dX6_wouldAsk_27 (by decide) (fun c_6 => absurd c_6 (fun z => by first | exact absurd z (by decide) | (have := of_decide_eq_true z; omega) | (have := of_decide_eq_false z; omega))) (fun c_6 => ?_)
  refine lv_iconst (v := (nI 0)) hx hb dX6_wouldAsk_30 (by decide) ?_
  exact hret _ _ _ (nI 0) _ _ dX6_wouldAsk_31 hw rfl rfl ⟨rfl, rfl⟩
set_option maxHeartbeats 4000000 in
set_option maxRecDepth 20000 in
theorem k_X6_roundsLeft (l : Launch) (G : va_G) (Y : Nat → Nat) (mo rf tx sz nw tr dy ac kp ik td ch sp ou : Nat) (ρ : Nat → Nat) (φ : Nat → Nat) (hI : Inv ρ) : CtI l yX6_roundsLeft cX6_roundsLeft 2 .int 5 110 [.ref mo] [[(mo, .inr (5, [.int (nI rf), .ref tx, .int (nI sz), .ref nw, .ref tr, .ref dy, .int (nI ac), .ref kp, .ref ik, .ref td, .ref ch, .int (nI sp), .int (nI ou)]))], [(nw, .inl (Y 0, 140, .inl (rowF ρ)))], [(tr, .inl (Y 0, 140, .inl (rowF φ)))]] (fun r sg => r = rlV ρ ∧ sg = [[(mo, .inr (5, [.int (nI 0), .ref tx, .int (nI sz), .ref nw, .ref tr, .ref dy, .int (nI ac), .ref kp, .ref ik, .ref td, .ref ch, .int (nI sp), .int (nI ou)]))], [(nw, .inl (Y 0, 140, .inl (rowF ρ)))], [(tr, .inl (Y 0, 140, .inl (rowF ((endR ρ).1))))]]) G Y := by
  refine x_ofI (by decide) (Nat.le_of_ble_eq_true rfl) (fun p e s m args below meth c A ls Q M hK hZ hw hl hret => ?_)
  obtain ⟨hx, hb, -⟩ := id M
  have hl : lv_has ls 2 [(0, .ref mo)] := hl
  have := hI.n6
  have := hI.over
  have := hI.keep
  have := hI.stepp
  have hIe : Inv (endR ρ).1 := Inv_runE hI
  refine lv_aload_n hx hb dX6_roundsLeft_0 rfl (lv_at hl 0 rfl) ?_
  refine lv_iconst (v := (nI 0)) hx hb dX6_roundsLeft_1 (by decide) ?_
  refine x_put M hK hw 0 0 rfl rfl fp_X6_39 rfl rfl (Nat.le_of_ble_eq_true rfl) dX6_roundsLeft_2 (fun H locs hw => ?_)
  have hw : xW G A s.heap [[(mo, .inr (5, [.int (nI 0), .ref tx, .int (nI sz), .ref nw, .ref tr, .ref dy, .int (nI ac), .ref kp, .ref ik, .ref td, .ref ch, .int (nI sp), .int (nI ou)]))], [(nw, .inl (Y 0, 140, .inl (rowF ρ)))], [(tr, .inl (Y 0, 140, .inl (rowF φ)))]] H locs := hw
  refine lv_aload_n hx hb dX6_roundsLeft_5 rfl (lv_at hl 0 rfl) ?_
  refine x_cVI (As := []) (k_X6_goOn l G Y mo 0 tx sz nw tr dy ac kp ik td ch sp ou ρ φ (hI)) cw_X6_195 [0, 1, 2] 0 0 M hK hZ hw hl.1 rfl (by decide) rfl rfl rfl ⟨by decide, by decide⟩ ⟨Nat.zero_le _, Nat.zero_le _⟩ rfl rfl (Nat.le_of_ble_eq_true rfl) dX6_roundsLeft_6 (fun r sg h_1 H locs hw => ?_)
  obtain ⟨rfl, rfl⟩ := h_1
  have hw : xW G A s.heap [[(mo, .inr (5, [.int (nI 0), .ref tx, .int (nI sz), .ref nw, .ref tr, .ref dy, .int (nI ac), .ref kp, .ref ik, .ref td, .ref ch, .int (nI sp), .int (nI ou)]))], [(nw, .inl (Y 0, 140, .inl (rowF ρ)))], [(tr, .inl (Y 0, 140, .inl (rowF ((endR ρ).1))))]] H locs := hw
  have q_2 : (endR ρ).2 ≤ 200 := Nat.le_trans runE_le (by decide)
  refine lv_istore_n (lv' := [(1, .int (nI ((endR ρ).2))), (0, .ref mo)]) hx hb dX6_roundsLeft_9 rfl hl (by decide) rfl (fun ls hl => ?_)
  refine lv_aload_n hx hb dX6_roundsLeft_10 rfl (lv_at hl 1 rfl) ?_
  refine x_get M hK hw 0 0 rfl rfl ff_X6_16 rfl dX6_roundsLeft_11 ?_
  refine lv_iconst (v := (nI 1)) hx hb dX6_roundsLeft_14 (by decide) ?_
  refine x_iald M hK hw 2 0 rfl rfl (by decide) (by decide) dX6_roundsLeft_15 ?_
  refine x_topN (n := ((endR ρ).1) 1) rfl ?_
  have q_3 : ((endR ρ).1) 1 ≤ 1 := hIe.over
  refine lv_iconst (v := (nI 1)) hx hb dX6_roundsLeft_16 (by decide) ?_
  refine x_cne M (tgt := 24) (by omega) (by decide) dX6_roundsLeft_17 (by decide) (fun c_4 => ?_) (fun c_4 => ?_)
  · refine lv_iconst (v := (mw 0)) hx hb dX6_roundsLeft_24 (by decide) ?_
    exact hret _ _ _ (mw 0) _ _ dX6_roundsLeft_25 hw rfl rfl ⟨by unfold rlV; rw [if_pos (by omega)], rfl⟩
  refine lv_iload_n hx hb dX6_roundsLeft_20 rfl (lv_at hl 0 rfl) ?_
  refine lv_goto (tgt := 25) hx hb dX6_roundsLeft_21 (by decide) ?_
  exact hret _ _ _ (nI ((endR ρ).2)) _ _ dX6_roundsLeft_25 hw rfl rfl ⟨by unfold rlV; rw [if_neg (by omega)], rfl⟩
set_option maxHeartbeats 4000000 in
set_option maxRecDepth 20000 in
theorem k_X6_endPrice (l : Launch) (G : va_G) (Y : Nat → Nat) (mo rf tx sz nw tr dy ac kp ik td ch sp ou : Nat) (ρ : Nat → Nat) (φ : Nat → Nat) (k : Nat) (hI : Inv ρ) (hk : k < 3) : CtI l yX6_endPrice cX6_endPrice 2 .int 5 110 [.ref mo, .int (nI k)] [[(mo, .inr (5, [.int (nI rf), .ref tx, .int (nI sz), .ref nw, .ref tr, .ref dy, .int (nI ac), .ref kp, .ref ik, .ref td, .ref ch, .int (nI sp), .int (nI ou)]))], [(nw, .inl (Y 0, 140, .inl (rowF ρ)))], [(tr, .inl (Y 0, 140, .inl (rowF φ)))]] (fun r sg => r = nI ((endR ρ).1 (11 + k)) ∧ sg = [[(mo, .inr (5, [.int (nI 0), .ref tx, .int (nI sz), .ref nw, .ref tr, .ref dy, .int (nI ac), .ref kp, .ref ik, .ref td, .ref ch, .int (nI sp), .int (nI ou)]))], [(nw, .inl (Y 0, 140, .inl (rowF ρ)))], [(tr, .inl (Y 0, 140, .inl (rowF ((endR ρ).1))))]]) G Y := by
  refine x_ofI (by decide) (Nat.le_of_ble_eq_true rfl) (fun p e s m args below meth c A ls Q M hK hZ hw hl hret => ?_)
  obtain ⟨hx, hb, -⟩ := id M
  have hl : lv_has ls 2 [(0, .ref mo), (1, .int (nI k))] := hl
  have := hI.n6
  have := hI.over
  have := hI.keep
  have := hI.stepp
  have hIe : Inv (endR ρ).1 := Inv_runE hI
  refine lv_aload_n hx hb dX6_endPrice_0 rfl (lv_at hl 0 rfl) ?_
  refine lv_iload_n hx hb dX6_endPrice_1 rfl (lv_at hl 1 rfl) ?_
  refine x_cSI (As := [.int (nI k)]) (k_X6_isKind l G Y (nI k)) cw_X6_83 [] M hK hZ hw hl.1 rfl (by decide) ⟨by decide, by decide⟩ ⟨Nat.zero_le _, Nat.zero_le _⟩ rfl rfl (Nat.le_of_ble_eq_true rfl) dX6_endPrice_2 (fun r sg h_1 H locs hw => ?_)
  obtain ⟨rfl, rfl⟩ := h_1
  have hw : xW G A s.heap [[(mo, .inr (5, [.int (nI rf), .ref tx, .int (nI sz), .ref nw, .ref tr, .ref dy, .int (nI ac), .ref kp, .ref ik, .ref td, .ref ch, .int (nI sp), .int (nI ou)]))], [(nw, .inl (Y 0, 140, .inl (rowF ρ)))], [(tr, .inl (Y 0, 140, .inl (rowF φ)))]] H locs := hw
  refine x_beq M (tgt := 12) dX6_endPrice_5 (by decide) (fun c_2 => absurd c_2 (fun z => pzF z (by omega) ⟨by omega, by omega⟩)) (fun c_2 => ?_)
  refine lv_iconst (v := (nI 0)) hx hb dX6_endPrice_8 (by decide) ?_
  refine lv_goto (tgt := 13) hx hb dX6_endPrice_9 (by decide) ?_
  refine x_cVI (As := [.int (nI 0)]) (k_X6_refused l G Y mo rf tx sz nw tr dy ac kp ik td ch sp ou 0 (by omega)) cw_X6_103 [0] 0 0 M hK hZ hw hl.1 rfl (by decide) rfl rfl rfl ⟨by decide, by decide⟩ ⟨Nat.zero_le _, Nat.zero_le _⟩ rfl rfl (Nat.le_of_ble_eq_true rfl) dX6_endPrice_13 (fun r sg h_3 H locs hw => ?_)
  obtain ⟨rfl, rfl⟩ := h_3
  have hw : xW G A s.heap [[(mo, .inr (5, [.int (nI 0), .ref tx, .int (nI sz), .ref nw, .ref tr, .ref dy, .int (nI ac), .ref kp, .ref ik, .ref td, .ref ch, .int (nI sp), .int (nI ou)]))], [(nw, .inl (Y 0, 140, .inl (rowF ρ)))], [(tr, .inl (Y 0, 140, .inl (rowF φ)))]] H locs := hw
  refine x_beq M (tgt := 21) dX6_endPrice_16 (by decide) (fun c_4 => ?_) (fun c_4 => absurd c_4 (fun z => by first | exact absurd z (by decide) | (have := of_decide_eq_true z; omega) | (have := of_decide_eq_false z; omega)))
  refine lv_aload_n hx hb dX6_endPrice_21 rfl (lv_at hl 0 rfl) ?_
  refine x_cVI (As := []) (k_X6_goOn l G Y mo 0 tx sz nw tr dy ac kp ik td ch sp ou ρ φ (hI)) cw_X6_195 [0, 1, 2] 0 0 M hK hZ hw hl.1 rfl (by decide) rfl rfl rfl ⟨by decide, by decide⟩ ⟨Nat.zero_le _, Nat.zero_le _⟩ rfl rfl (Nat.le_of_ble_eq_true rfl) dX6_endPrice_22 (fun r sg h_5 H locs hw => ?_)
  obtain ⟨rfl, rfl⟩ := h_5
  have hw : xW G A s.heap [[(mo, .inr (5, [.int (nI 0), .ref tx, .int (nI sz), .ref nw, .ref tr, .ref dy, .int (nI ac), .ref kp, .ref ik, .ref td, .ref ch, .int (nI sp), .int (nI ou)]))], [(nw, .inl (Y 0, 140, .inl (rowF ρ)))], [(tr, .inl (Y 0, 140, .inl (rowF ((endR ρ).1))))]] H locs := hw
  have q_6 : (endR ρ).2 ≤ 200 := Nat.le_trans runE_le (by decide)
  refine lv_pop hx hb dX6_endPrice_25 rfl ?_
  refine lv_aload_n hx hb dX6_endPrice_26 rfl (lv_at hl 0 rfl) ?_
  refine x_get M hK hw 0 0 rfl rfl ff_X6_16 rfl dX6_endPrice_27 ?_
  refine lv_bipush (v := (nI 11)) hx hb dX6_endPrice_30 (by decide) ?_
  refine lv_iload_n hx hb dX6_endPrice_32 rfl (lv_at hl 1 rfl) ?_
  refine x_iadd M (n := 11 + k) dX6_endPrice_33 rfl ?_
  refine x_iald M hK hw 2 0 rfl rfl (by omega) (by decide) dX6_endPrice_34 ?_
  refine x_topN (n := ((endR ρ).1) (11 + k)) rfl ?_
  have q_7 : 1 ≤ ((endR ρ).1) (11 + k) := (hIe.pri (k := k) (by omega) rfl).1
  have q_8 : ((endR ρ).1) (11 + k) ≤ 99999 := (hIe.pri (k := k) (by omega) rfl).2
  exact hret _ _ _ (nI (((endR ρ).1) (11 + k))) _ _ dX6_endPrice_35 hw rfl rfl ⟨rfl, rfl⟩
set_option maxHeartbeats 4000000 in
set_option maxRecDepth 20000 in
theorem f_X6_endPrice (l : Launch) (G : va_G) (Y : Nat → Nat) (mo rf tx sz nw tr dy ac kp ik td ch sp ou : Nat) (ρ : Nat → Nat) (k : Int32) (hk : inZ k.toInt 0 2 = false) : CtI l yX6_endPrice cX6_endPrice 2 .int 2 45 [.ref mo, .int k] [[(mo, .inr (5, [.int (nI rf), .ref tx, .int (nI sz), .ref nw, .ref tr, .ref dy, .int (nI ac), .ref kp, .ref ik, .ref td, .ref ch, .int (nI sp), .int (nI ou)]))], [(nw, .inl (Y 0, 140, .inl (rowF ρ)))]] (fun r sg => r = nI 0 ∧ sg = [[(mo, .inr (5, [.int (nI 1), .ref tx, .int (nI sz), .ref nw, .ref tr, .ref dy, .int (nI ac), .ref kp, .ref ik, .ref td, .ref ch, .int (nI sp), .int (nI ou)]))], [(nw, .inl (Y 0, 140, .inl (rowF ρ)))]]) G Y := by
  refine x_ofI (by decide) (Nat.le_of_ble_eq_true rfl) (fun p e s m args below meth c A ls Q M hK hZ hw hl hret => ?_)
  obtain ⟨hx, hb, -⟩ := id M
  have hl : lv_has ls 2 [(0, .ref mo), (1, .int k)] := hl
  refine lv_aload_n hx hb dX6_endPrice_0 rfl (lv_at hl 0 rfl) ?_
  refine lv_iload_n hx hb dX6_endPrice_1 rfl (lv_at hl 1 rfl) ?_
  refine x_cSI (As := [.int k]) (k_X6_isKind l G Y k) cw_X6_83 [] M hK hZ hw hl.1 rfl (by decide) ⟨by decide, by decide⟩ ⟨Nat.zero_le _, Nat.zero_le _⟩ rfl rfl (Nat.le_of_ble_eq_true rfl) dX6_endPrice_2 (fun r sg h_1 H locs hw => ?_)
  obtain ⟨rfl, rfl⟩ := h_1
  have hw : xW G A s.heap [[(mo, .inr (5, [.int (nI rf), .ref tx, .int (nI sz), .ref nw, .ref tr, .ref dy, .int (nI ac), .ref kp, .ref ik, .ref td, .ref ch, .int (nI sp), .int (nI ou)]))], [(nw, .inl (Y 0, 140, .inl (rowF ρ)))]] H locs := hw
  refine x_beq M (tgt := 12) dX6_endPrice_5 (by decide) (fun c_2 => ?_) (fun c_2 => absurd c_2 (fun z => by have h9 := z; rw [hk] at h9; exact absurd h9 (by decide)))
  refine lv_iconst (v := (nI 1)) hx hb dX6_endPrice_12 (by decide) ?_
  refine x_cVI (As := [.int (nI 1)]) (k_X6_refused l G Y mo rf tx sz nw tr dy ac kp ik td ch sp ou 1 (by omega)) cw_X6_103 [0] 0 0 M hK hZ hw hl.1 rfl (by decide) rfl rfl rfl ⟨by decide, by decide⟩ ⟨Nat.zero_le _, Nat.zero_le _⟩ rfl rfl (Nat.le_of_ble_eq_true rfl) dX6_endPrice_13 (fun r sg h_3 H locs hw => ?_)
  obtain ⟨rfl, rfl⟩ := h_3
  have hw : xW G A s.heap [[(mo, .inr (5, [.int (nI 1), .ref tx, .int (nI sz), .ref nw, .ref tr, .ref dy, .int (nI ac), .ref kp, .ref ik, .ref td, .ref ch, .int (nI sp), .int (nI ou)]))], [(nw, .inl (Y 0, 140, .inl (rowF ρ)))]] H locs := hw
  refine x_beq M (tgt := 21) dX6_endPrice_16 (by decide) (fun c_4 => absurd c_4 (fun z => by first | exact absurd z (by decide) | (have := of_decide_eq_true z; omega) | (have := of_decide_eq_false z; omega))) (fun c_4 => ?_)
  refine lv_iconst (v := (nI 0)) hx hb dX6_endPrice_19 (by decide) ?_
  exact hret _ _ _ (nI 0) _ _ dX6_endPrice_20 hw rfl rfl ⟨rfl, rfl⟩
set_option maxHeartbeats 4000000 in
set_option maxRecDepth 20000 in
theorem k_X6_save_0 (l : Launch) (G : va_G) (Y : Nat → Nat) (mo rf tx sz nw tr dy ac kp ik td ch sp ou : Nat) (ρ : Nat → Nat) (kf : Nat → Nat) (fl : Nat → Int32) (hI : Inv ρ) : CtI l yX6_save cX6_save 2 .int 1 25 [.ref mo, .int (nI 0)] [[(mo, .inr (5, [.int (nI rf), .ref tx, .int (nI sz), .ref nw, .ref tr, .ref dy, .int (nI ac), .ref kp, .ref ik, .ref td, .ref ch, .int (nI sp), .int (nI ou)]))], [(nw, .inl (Y 0, 140, .inl (rowF ρ)))], [(kp, .inl (Y 0, 280, .inl (rowF kf)))], [(ik, .inl (Y 1, 2, .inl fl))]] (fun r sg => r = nI (ρ 0) ∧ ∃ (kf' : Nat → Nat), (∀ q, q < 140 → kf' (0 + q) = ρ q) ∧ (∀ q, q < 140 → kf' (140 + q) = kf (140 + q)) ∧ sg = [[(mo, .inr (5, [.int (nI 0), .ref tx, .int (nI sz), .ref nw, .ref tr, .ref dy, .int (nI ac), .ref kp, .ref ik, .ref td, .ref ch, .int (nI sp), .int (nI ou)]))], [(nw, .inl (Y 0, 140, .inl (rowF ρ)))], [(kp, .inl (Y 0, 280, .inl (rowF kf')))], [(ik, .inl (Y 1, 2, .inl (upd fl 0 (nI 1))))]]) G Y := by
  refine x_ofI (by decide) (Nat.le_of_ble_eq_true rfl) (fun p e s m args below meth c A ls Q M hK hZ hw hl hret => ?_)
  obtain ⟨hx, hb, -⟩ := id M
  have hl : lv_has ls 2 [(0, .ref mo), (1, .int (nI 0))] := hl
  have := hI.n6
  have := hI.over
  have := hI.keep
  have := hI.stepp
  refine lv_aload_n hx hb dX6_save_0 rfl (lv_at hl 0 rfl) ?_
  refine lv_iload_n hx hb dX6_save_1 rfl (lv_at hl 1 rfl) ?_
  refine lv_i2l (v := (nI 0).toInt64) hx hb dX6_save_2 rfl ?_
  refine lv_lconst (v := 0) hx hb dX6_save_3 (by decide) ?_
  refine lv_lconst (v := 1) hx hb dX6_save_4 (by decide) ?_
  refine x_cSI (As := [.long ((nI 0).toInt64), .long 0, .long 1]) (k_X6_in l G Y ((nI 0).toInt64) 0 1) cw_X6_45 [] M hK hZ hw hl.1 rfl (by decide) ⟨by decide, by decide⟩ ⟨Nat.zero_le _, Nat.zero_le _⟩ rfl rfl (Nat.le_of_ble_eq_true rfl) dX6_save_5 (fun r sg h_1 H locs hw => ?_)
  obtain ⟨rfl, rfl⟩ := h_1
  have hw : xW G A s.heap [[(mo, .inr (5, [.int (nI rf), .ref tx, .int (nI sz), .ref nw, .ref tr, .ref dy, .int (nI ac), .ref kp, .ref ik, .ref td, .ref ch, .int (nI sp), .int (nI ou)]))], [(nw, .inl (Y 0, 140, .inl (rowF ρ)))], [(kp, .inl (Y 0, 280, .inl (rowF kf)))], [(ik, .inl (Y 1, 2, .inl fl))]] H locs := hw
  refine x_topI (y := b2i (inZ (nI 0).toInt 0 1)) (by rw [Int32.toInt_toInt64]; rfl) ?_
  refine x_beq M (tgt := 15) dX6_save_8 (by decide) (fun c_2 => absurd c_2 (fun z => pzF z (by omega) ⟨by omega, by omega⟩)) (fun c_2 => ?_)
  refine lv_iconst (v := (nI 0)) hx hb dX6_save_11 (by decide) ?_
  refine lv_goto (tgt := 16) hx hb dX6_save_12 (by decide) ?_
  refine x_cVI (As := [.int (nI 0)]) (k_X6_refused l G Y mo rf tx sz nw tr dy ac kp ik td ch sp ou 0 (by omega)) cw_X6_103 [0] 0 0 M hK hZ hw hl.1 rfl (by decide) rfl rfl rfl ⟨by decide, by decide⟩ ⟨Nat.zero_le _, Nat.zero_le _⟩ rfl rfl (Nat.le_of_ble_eq_true rfl) dX6_save_16 (fun r sg h_3 H locs hw => ?_)
  obtain ⟨rfl, rfl⟩ := h_3
  have hw : xW G A s.heap [[(mo, .inr (5, [.int (nI 0), .ref tx, .int (nI sz), .ref nw, .ref tr, .ref dy, .int (nI ac), .ref kp, .ref ik, .ref td, .ref ch, .int (nI sp), .int (nI ou)]))], [(nw, .inl (Y 0, 140, .inl (rowF ρ)))], [(kp, .inl (Y 0, 280, .inl (rowF kf)))], [(ik, .inl (Y 1, 2, .inl fl))]] H locs := hw
  refine x_beq M (tgt := 24) dX6_save_19 (by decide) (fun c_4 => ?_) (fun c_4 => absurd c_4 (fun z => by first | exact absurd z (by decide) | (have := of_decide_eq_true z; omega) | (have := of_decide_eq_false z; omega)))
  refine lv_aload_n hx hb dX6_save_24 rfl (lv_at hl 0 rfl) ?_
  refine x_get M hK hw 0 0 rfl rfl ff_X6_13 rfl dX6_save_25 ?_
  refine lv_iconst (v := (nI 0)) hx hb dX6_save_28 (by decide) ?_
  refine lv_aload_n hx hb dX6_save_29 rfl (lv_at hl 0 rfl) ?_
  refine x_get M hK hw 0 0 rfl rfl ff_X6_22 rfl dX6_save_30 ?_
  refine lv_sipush (v := (nI 140)) hx hb dX6_save_33 (by decide) ?_
  refine lv_iload_n hx hb dX6_save_36 rfl (lv_at hl 1 rfl) ?_
  refine x_imul M (n := 0) dX6_save_37 rfl ?_
  refine x_cSV (As := [.ref nw, .int (nI 0), .ref kp, .int (nI 0)]) (k_X6_copyState l G Y nw kp 140 280 0 0 ρ kf (by omega) (by omega) (by omega) (by omega)) cw_X6_154 [1, 2] M hK hZ hw hl.1 rfl (by decide) ⟨by decide, by decide⟩ ⟨Nat.zero_le _, Nat.zero_le _⟩ rfl rfl (Nat.le_of_ble_eq_true rfl) dX6_save_38 (fun sg h_5 H locs hw => ?_)
  obtain rfl := h_5
  have hw : xW G A s.heap [[(mo, .inr (5, [.int (nI 0), .ref tx, .int (nI sz), .ref nw, .ref tr, .ref dy, .int (nI ac), .ref kp, .ref ik, .ref td, .ref ch, .int (nI sp), .int (nI ou)]))], [(nw, .inl (Y 0, 140, .inl (rowF ρ)))], [(kp, .inl (Y 0, 280, .inl (rowF (cpS ρ kf 0 0 140))))], [(ik, .inl (Y 1, 2, .inl fl))]] H locs := hw
  refine lv_aload_n hx hb dX6_save_41 rfl (lv_at hl 0 rfl) ?_
  refine x_get M hK hw 0 0 rfl rfl ff_X6_25 rfl dX6_save_42 ?_
  refine lv_iload_n hx hb dX6_save_45 rfl (lv_at hl 1 rfl) ?_
  refine lv_iconst (v := (nI 1)) hx hb dX6_save_46 (by decide) ?_
  refine x_zast M hK hw 3 0 rfl rfl (by decide) (by decide) (by decide) dX6_save_47 (fun H locs hw => ?_)
  have hw : xW G A s.heap [[(mo, .inr (5, [.int (nI 0), .ref tx, .int (nI sz), .ref nw, .ref tr, .ref dy, .int (nI ac), .ref kp, .ref ik, .ref td, .ref ch, .int (nI sp), .int (nI ou)]))], [(nw, .inl (Y 0, 140, .inl (rowF ρ)))], [(kp, .inl (Y 0, 280, .inl (rowF (cpS ρ kf 0 0 140))))], [(ik, .inl (Y 1, 2, .inl (upd fl 0 (nI 1))))]] H locs := hw
  refine lv_aload_n hx hb dX6_save_48 rfl (lv_at hl 0 rfl) ?_
  refine x_get M hK hw 0 0 rfl rfl ff_X6_13 rfl dX6_save_49 ?_
  refine lv_iconst (v := (nI 0)) hx hb dX6_save_52 (by decide) ?_
  refine x_iald M hK hw 1 0 rfl rfl (by decide) (by decide) dX6_save_53 ?_
  refine x_topN (n := ρ 0) rfl ?_
  exact hret _ _ _ (nI (ρ 0)) _ _ dX6_save_54 hw rfl rfl ⟨rfl, _, fun q hq => (cpS_in (fa := 0) (ta := 0) hq).trans (congrArg ρ (Nat.zero_add q)), fun q hq => cpS_out (by omega), rfl⟩
set_option maxHeartbeats 4000000 in
set_option maxRecDepth 20000 in
theorem k_X6_save_1 (l : Launch) (G : va_G) (Y : Nat → Nat) (mo rf tx sz nw tr dy ac kp ik td ch sp ou : Nat) (ρ : Nat → Nat) (kf : Nat → Nat) (fl : Nat → Int32) (hI : Inv ρ) : CtI l yX6_save cX6_save 2 .int 1 25 [.ref mo, .int (nI 1)] [[(mo, .inr (5, [.int (nI rf), .ref tx, .int (nI sz), .ref nw, .ref tr, .ref dy, .int (nI ac), .ref kp, .ref ik, .ref td, .ref ch, .int (nI sp), .int (nI ou)]))], [(nw, .inl (Y 0, 140, .inl (rowF ρ)))], [(kp, .inl (Y 0, 280, .inl (rowF kf)))], [(ik, .inl (Y 1, 2, .inl fl))]] (fun r sg => r = nI (ρ 0) ∧ ∃ (kf' : Nat → Nat), (∀ q, q < 140 → kf' (140 + q) = ρ q) ∧ (∀ q, q < 140 → kf' (0 + q) = kf (0 + q)) ∧ sg = [[(mo, .inr (5, [.int (nI 0), .ref tx, .int (nI sz), .ref nw, .ref tr, .ref dy, .int (nI ac), .ref kp, .ref ik, .ref td, .ref ch, .int (nI sp), .int (nI ou)]))], [(nw, .inl (Y 0, 140, .inl (rowF ρ)))], [(kp, .inl (Y 0, 280, .inl (rowF kf')))], [(ik, .inl (Y 1, 2, .inl (upd fl 1 (nI 1))))]]) G Y := by
  refine x_ofI (by decide) (Nat.le_of_ble_eq_true rfl) (fun p e s m args below meth c A ls Q M hK hZ hw hl hret => ?_)
  obtain ⟨hx, hb, -⟩ := id M
  have hl : lv_has ls 2 [(0, .ref mo), (1, .int (nI 1))] := hl
  have := hI.n6
  have := hI.over
  have := hI.keep
  have := hI.stepp
  refine lv_aload_n hx hb dX6_save_0 rfl (lv_at hl 0 rfl) ?_
  refine lv_iload_n hx hb dX6_save_1 rfl (lv_at hl 1 rfl) ?_
  refine lv_i2l (v := (nI 1).toInt64) hx hb dX6_save_2 rfl ?_
  refine lv_lconst (v := 0) hx hb dX6_save_3 (by decide) ?_
  refine lv_lconst (v := 1) hx hb dX6_save_4 (by decide) ?_
  refine x_cSI (As := [.long ((nI 1).toInt64), .long 0, .long 1]) (k_X6_in l G Y ((nI 1).toInt64) 0 1) cw_X6_45 [] M hK hZ hw hl.1 rfl (by decide) ⟨by decide, by decide⟩ ⟨Nat.zero_le _, Nat.zero_le _⟩ rfl rfl (Nat.le_of_ble_eq_true rfl) dX6_save_5 (fun r sg h_1 H locs hw => ?_)
  obtain ⟨rfl, rfl⟩ := h_1
  have hw : xW G A s.heap [[(mo, .inr (5, [.int (nI rf), .ref tx, .int (nI sz), .ref nw, .ref tr, .ref dy, .int (nI ac), .ref kp, .ref ik, .ref td, .ref ch, .int (nI sp), .int (nI ou)]))], [(nw, .inl (Y 0, 140, .inl (rowF ρ)))], [(kp, .inl (Y 0, 280, .inl (rowF kf)))], [(ik, .inl (Y 1, 2, .inl fl))]] H locs := hw
  refine x_topI (y := b2i (inZ (nI 1).toInt 0 1)) (by rw [Int32.toInt_toInt64]; rfl) ?_
  refine x_beq M (tgt := 15) dX6_save_8 (by decide) (fun c_2 => absurd c_2 (fun z => pzF z (by omega) ⟨by omega, by omega⟩)) (fun c_2 => ?_)
  refine lv_iconst (v := (nI 0)) hx hb dX6_save_11 (by decide) ?_
  refine lv_goto (tgt := 16) hx hb dX6_save_12 (by decide) ?_
  refine x_cVI (As := [.int (nI 0)]) (k_X6_refused l G Y mo rf tx sz nw tr dy ac kp ik td ch sp ou 0 (by omega)) cw_X6_103 [0] 0 0 M hK hZ hw hl.1 rfl (by decide) rfl rfl rfl ⟨by decide, by decide⟩ ⟨Nat.zero_le _, Nat.zero_le _⟩ rfl rfl (Nat.le_of_ble_eq_true rfl) dX6_save_16 (fun r sg h_3 H locs hw => ?_)
  obtain ⟨rfl, rfl⟩ := h_3
  have hw : xW G A s.heap [[(mo, .inr (5, [.int (nI 0), .ref tx, .int (nI sz), .ref nw, .ref tr, .ref dy, .int (nI ac), .ref kp, .ref ik, .ref td, .ref ch, .int (nI sp), .int (nI ou)]))], [(nw, .inl (Y 0, 140, .inl (rowF ρ)))], [(kp, .inl (Y 0, 280, .inl (rowF kf)))], [(ik, .inl (Y 1, 2, .inl fl))]] H locs := hw
  refine x_beq M (tgt := 24) dX6_save_19 (by decide) (fun c_4 => ?_) (fun c_4 => absurd c_4 (fun z => by first | exact absurd z (by decide) | (have := of_decide_eq_true z; omega) | (have := of_decide_eq_false z; omega)))
  refine lv_aload_n hx hb dX6_save_24 rfl (lv_at hl 0 rfl) ?_
  refine x_get M hK hw 0 0 rfl rfl ff_X6_13 rfl dX6_save_25 ?_
  refine lv_iconst (v := (nI 0)) hx hb dX6_save_28 (by decide) ?_
  refine lv_aload_n hx hb dX6_save_29 rfl (lv_at hl 0 rfl) ?_
  refine x_get M hK hw 0 0 rfl rfl ff_X6_22 rfl dX6_save_30 ?_
  refine lv_sipush (v := (nI 140)) hx hb dX6_save_33 (by decide) ?_
  refine lv_iload_n hx hb dX6_save_36 rfl (lv_at hl 1 rfl) ?_
  refine x_imul M (n := 140) dX6_save_37 rfl ?_
  refine x_cSV (As := [.ref nw, .int (nI 0), .ref kp, .int (nI 140)]) (k_X6_copyState l G Y nw kp 140 280 0 140 ρ kf (by omega) (by omega) (by omega) (by omega)) cw_X6_154 [1, 2] M hK hZ hw hl.1 rfl (by decide) ⟨by decide, by decide⟩ ⟨Nat.zero_le _, Nat.zero_le _⟩ rfl rfl (Nat.le_of_ble_eq_true rfl) dX6_save_38 (fun sg h_5 H locs hw => ?_)
  obtain rfl := h_5
  have hw : xW G A s.heap [[(mo, .inr (5, [.int (nI 0), .ref tx, .int (nI sz), .ref nw, .ref tr, .ref dy, .int (nI ac), .ref kp, .ref ik, .ref td, .ref ch, .int (nI sp), .int (nI ou)]))], [(nw, .inl (Y 0, 140, .inl (rowF ρ)))], [(kp, .inl (Y 0, 280, .inl (rowF (cpS ρ kf 0 140 140))))], [(ik, .inl (Y 1, 2, .inl fl))]] H locs := hw
  refine lv_aload_n hx hb dX6_save_41 rfl (lv_at hl 0 rfl) ?_
  refine x_get M hK hw 0 0 rfl rfl ff_X6_25 rfl dX6_save_42 ?_
  refine lv_iload_n hx hb dX6_save_45 rfl (lv_at hl 1 rfl) ?_
  refine lv_iconst (v := (nI 1)) hx hb dX6_save_46 (by decide) ?_
  refine x_zast M hK hw 3 0 rfl rfl (by decide) (by decide) (by decide) dX6_save_47 (fun H locs hw => ?_)
  have hw : xW G A s.heap [[(mo, .inr (5, [.int (nI 0), .ref tx, .int (nI sz), .ref nw, .ref tr, .ref dy, .int (nI ac), .ref kp, .ref ik, .ref td, .ref ch, .int (nI sp), .int (nI ou)]))], [(nw, .inl (Y 0, 140, .inl (rowF ρ)))], [(kp, .inl (Y 0, 280, .inl (rowF (cpS ρ kf 0 140 140))))], [(ik, .inl (Y 1, 2, .inl (upd fl 1 (nI 1))))]] H locs := hw
  refine lv_aload_n hx hb dX6_save_48 rfl (lv_at hl 0 rfl) ?_
  refine x_get M hK hw 0 0 rfl rfl ff_X6_13 rfl dX6_save_49 ?_
  refine lv_iconst (v := (nI 0)) hx hb dX6_save_52 (by decide) ?_
  refine x_iald M hK hw 1 0 rfl rfl (by decide) (by decide) dX6_save_53 ?_
  refine x_topN (n := ρ 0) rfl ?_
  exact hret _ _ _ (nI (ρ 0)) _ _ dX6_save_54 hw rfl rfl ⟨rfl, _, fun q hq => (cpS_in (fa := 0) (ta := 140) hq).trans (congrArg ρ (Nat.zero_add q)), fun q hq => cpS_out (by omega), rfl⟩
set_option maxHeartbeats 4000000 in
set_option maxRecDepth 20000 in
theorem f_X6_save (l : Launch) (G : va_G) (Y : Nat → Nat) (mo rf tx sz nw tr dy ac kp ik td ch sp ou : Nat) (ρ : Nat → Nat) (k : Int32) (hk : inZ k.toInt 0 1 = false) : CtI l yX6_save cX6_save 2 .int 1 25 [.ref mo, .int k] [[(mo, .inr (5, [.int (nI rf), .ref tx, .int (nI sz), .ref nw, .ref tr, .ref dy, .int (nI ac), .ref kp, .ref ik, .ref td, .ref ch, .int (nI sp), .int (nI ou)]))], [(nw, .inl (Y 0, 140, .inl (rowF ρ)))]] (fun r sg => r = nI 0 ∧ sg = [[(mo, .inr (5, [.int (nI 1), .ref tx, .int (nI sz), .ref nw, .ref tr, .ref dy, .int (nI ac), .ref kp, .ref ik, .ref td, .ref ch, .int (nI sp), .int (nI ou)]))], [(nw, .inl (Y 0, 140, .inl (rowF ρ)))]]) G Y := by
  refine x_ofI (by decide) (Nat.le_of_ble_eq_true rfl) (fun p e s m args below meth c A ls Q M hK hZ hw hl hret => ?_)
  obtain ⟨hx, hb, -⟩ := id M
  have hl : lv_has ls 2 [(0, .ref mo), (1, .int k)] := hl
  refine lv_aload_n hx hb dX6_save_0 rfl (lv_at hl 0 rfl) ?_
  refine lv_iload_n hx hb dX6_save_1 rfl (lv_at hl 1 rfl) ?_
  refine lv_i2l (v := k.toInt64) hx hb dX6_save_2 rfl ?_
  refine lv_lconst (v := 0) hx hb dX6_save_3 (by decide) ?_
  refine lv_lconst (v := 1) hx hb dX6_save_4 (by decide) ?_
  refine x_cSI (As := [.long k.toInt64, .long 0, .long 1]) (k_X6_in l G Y k.toInt64 0 1) cw_X6_45 [] M hK hZ hw hl.1 rfl (by decide) ⟨by decide, by decide⟩ ⟨Nat.zero_le _, Nat.zero_le _⟩ rfl rfl (Nat.le_of_ble_eq_true rfl) dX6_save_5 (fun r sg h_1 H locs hw => ?_)
  obtain ⟨rfl, rfl⟩ := h_1
  have hw : xW G A s.heap [[(mo, .inr (5, [.int (nI rf), .ref tx, .int (nI sz), .ref nw, .ref tr, .ref dy, .int (nI ac), .ref kp, .ref ik, .ref td, .ref ch, .int (nI sp), .int (nI ou)]))], [(nw, .inl (Y 0, 140, .inl (rowF ρ)))]] H locs := hw
  refine x_topI (y := b2i (inZ k.toInt 0 1)) (by rw [Int32.toInt_toInt64]; rfl) ?_
  refine x_beq M (tgt := 15) dX6_save_8 (by decide) (fun c_2 => ?_) (fun c_2 => absurd c_2 (fun z => by have h9 := z; rw [hk] at h9; exact absurd h9 (by decide)))
  refine lv_iconst (v := (nI 1)) hx hb dX6_save_15 (by decide) ?_
  refine x_cVI (As := [.int (nI 1)]) (k_X6_refused l G Y mo rf tx sz nw tr dy ac kp ik td ch sp ou 1 (by omega)) cw_X6_103 [0] 0 0 M hK hZ hw hl.1 rfl (by decide) rfl rfl rfl ⟨by decide, by decide⟩ ⟨Nat.zero_le _, Nat.zero_le _⟩ rfl rfl (Nat.le_of_ble_eq_true rfl) dX6_save_16 (fun r sg h_3 H locs hw => ?_)
  obtain ⟨rfl, rfl⟩ := h_3
  have hw : xW G A s.heap [[(mo, .inr (5, [.int (nI 1), .ref tx, .int (nI sz), .ref nw, .ref tr, .ref dy, .int (nI ac), .ref kp, .ref ik, .ref td, .ref ch, .int (nI sp), .int (nI ou)]))], [(nw, .inl (Y 0, 140, .inl (rowF ρ)))]] H locs := hw
  refine x_beq M (tgt := 24) dX6_save_19 (by decide) (fun c_4 => absurd c_4 (fun z => by first | exact absurd z (by decide) | (have := of_decide_eq_true z; omega) | (have := of_decide_eq_false z; omega))) (fun c_4 => ?_)
  refine lv_iconst (v := (nI 0)) hx hb dX6_save_22 (by decide) ?_
  exact hret _ _ _ (nI 0) _ _ dX6_save_23 hw rfl rfl ⟨rfl, rfl⟩
set_option maxHeartbeats 4000000 in
set_option maxRecDepth 20000 in
theorem k_X6_restore_0 (l : Launch) (G : va_G) (Y : Nat → Nat) (mo rf tx sz nw tr dy ac kp ik td ch sp ou : Nat) (ρ : Nat → Nat) (κ kf : Nat → Nat) (fl : Nat → Int32) (hkp : ∀ q, q < 140 → kf (0 + q) = κ q) (hf : fl 0 = nI 1) : CtI l yX6_restore cX6_restore 2 .int 1 25 [.ref mo, .int (nI 0)] [[(mo, .inr (5, [.int (nI rf), .ref tx, .int (nI sz), .ref nw, .ref tr, .ref dy, .int (nI ac), .ref kp, .ref ik, .ref td, .ref ch, .int (nI sp), .int (nI ou)]))], [(nw, .inl (Y 0, 140, .inl (rowF ρ)))], [(kp, .inl (Y 0, 280, .inl (rowF kf)))], [(ik, .inl (Y 1, 2, .inl fl))]] (fun r sg => r = nI (κ 0) ∧ sg = [[(mo, .inr (5, [.int (nI 0), .ref tx, .int (nI sz), .ref nw, .ref tr, .ref dy, .int (nI 0), .ref kp, .ref ik, .ref td, .ref ch, .int (nI sp), .int (nI ou)]))], [(nw, .inl (Y 0, 140, .inl (rowF κ)))], [(kp, .inl (Y 0, 280, .inl (rowF kf)))], [(ik, .inl (Y 1, 2, .inl fl))]]) G Y := by
  refine x_ofI (by decide) (Nat.le_of_ble_eq_true rfl) (fun p e s m args below meth c A ls Q M hK hZ hw hl hret => ?_)
  obtain ⟨hx, hb, -⟩ := id M
  have hl : lv_has ls 2 [(0, .ref mo), (1, .int (nI 0))] := hl
  refine lv_aload_n hx hb dX6_restore_0 rfl (lv_at hl 0 rfl) ?_
  refine lv_iload_n hx hb dX6_restore_1 rfl (lv_at hl 1 rfl) ?_
  refine lv_i2l (v := (nI 0).toInt64) hx hb dX6_restore_2 rfl ?_
  refine lv_lconst (v := 0) hx hb dX6_restore_3 (by decide) ?_
  refine lv_lconst (v := 1) hx hb dX6_restore_4 (by decide) ?_
  refine x_cSI (As := [.long ((nI 0).toInt64), .long 0, .long 1]) (k_X6_in l G Y ((nI 0).toInt64) 0 1) cw_X6_45 [] M hK hZ hw hl.1 rfl (by decide) ⟨by decide, by decide⟩ ⟨Nat.zero_le _, Nat.zero_le _⟩ rfl rfl (Nat.le_of_ble_eq_true rfl) dX6_restore_5 (fun r sg h_1 H locs hw => ?_)
  obtain ⟨rfl, rfl⟩ := h_1
  have hw : xW G A s.heap [[(mo, .inr (5, [.int (nI rf), .ref tx, .int (nI sz), .ref nw, .ref tr, .ref dy, .int (nI ac), .ref kp, .ref ik, .ref td, .ref ch, .int (nI sp), .int (nI ou)]))], [(nw, .inl (Y 0, 140, .inl (rowF ρ)))], [(kp, .inl (Y 0, 280, .inl (rowF kf)))], [(ik, .inl (Y 1, 2, .inl fl))]] H locs := hw
  refine x_topI (y := b2i (inZ (nI 0).toInt 0 1)) (by rw [Int32.toInt_toInt64]; rfl) ?_
  refine x_bne M (tgt := 15) dX6_restore_8 (by decide) (fun c_2 => ?_) (fun c_2 => absurd c_2 (fun z => pzF z (by omega) ⟨by omega, by omega⟩))
  refine lv_aload_n hx hb dX6_restore_15 rfl (lv_at hl 0 rfl) ?_
  refine x_get M hK hw 0 0 rfl rfl ff_X6_25 rfl dX6_restore_16 ?_
  refine lv_iload_n hx hb dX6_restore_19 rfl (lv_at hl 1 rfl) ?_
  refine x_zald M hK hw 3 0 rfl rfl (by decide) (by decide) dX6_restore_20 ?_
  refine x_topN (n := 1) hf ?_
  refine x_zne M (tgt := 28) (by decide) dX6_restore_21 (by decide) (fun c_3 => ?_) (fun c_3 => absurd c_3 (by decide))
  refine lv_iconst (v := (nI 0)) hx hb dX6_restore_28 (by decide) ?_
  refine x_cVI (As := [.int (nI 0)]) (k_X6_refused l G Y mo rf tx sz nw tr dy ac kp ik td ch sp ou 0 (by omega)) cw_X6_103 [0] 0 0 M hK hZ hw hl.1 rfl (by decide) rfl rfl rfl ⟨by decide, by decide⟩ ⟨Nat.zero_le _, Nat.zero_le _⟩ rfl rfl (Nat.le_of_ble_eq_true rfl) dX6_restore_29 (fun r sg h_4 H locs hw => ?_)
  obtain ⟨rfl, rfl⟩ := h_4
  have hw : xW G A s.heap [[(mo, .inr (5, [.int (nI 0), .ref tx, .int (nI sz), .ref nw, .ref tr, .ref dy, .int (nI ac), .ref kp, .ref ik, .ref td, .ref ch, .int (nI sp), .int (nI ou)]))], [(nw, .inl (Y 0, 140, .inl (rowF ρ)))], [(kp, .inl (Y 0, 280, .inl (rowF kf)))], [(ik, .inl (Y 1, 2, .inl fl))]] H locs := hw
  refine x_beq M (tgt := 37) dX6_restore_32 (by decide) (fun c_5 => ?_) (fun c_5 => absurd c_5 (fun z => by first | exact absurd z (by decide) | (have := of_decide_eq_true z; omega) | (have := of_decide_eq_false z; omega)))
  refine lv_aload_n hx hb dX6_restore_37 rfl (lv_at hl 0 rfl) ?_
  refine x_get M hK hw 0 0 rfl rfl ff_X6_22 rfl dX6_restore_38 ?_
  refine lv_sipush (v := (nI 140)) hx hb dX6_restore_41 (by decide) ?_
  refine lv_iload_n hx hb dX6_restore_44 rfl (lv_at hl 1 rfl) ?_
  refine x_imul M (n := 0) dX6_restore_45 rfl ?_
  refine lv_aload_n hx hb dX6_restore_46 rfl (lv_at hl 0 rfl) ?_
  refine x_get M hK hw 0 0 rfl rfl ff_X6_13 rfl dX6_restore_47 ?_
  refine lv_iconst (v := (nI 0)) hx hb dX6_restore_50 (by decide) ?_
  refine x_cSV (As := [.ref kp, .int (nI 0), .ref nw, .int (nI 0)]) (k_X6_copyState l G Y kp nw 280 140 0 0 kf ρ (by omega) (by omega) (by omega) (by omega)) cw_X6_154 [2, 1] M hK hZ hw hl.1 rfl (by decide) ⟨by decide, by decide⟩ ⟨Nat.zero_le _, Nat.zero_le _⟩ rfl rfl (Nat.le_of_ble_eq_true rfl) dX6_restore_51 (fun sg h_6 H locs hw => ?_)
  obtain rfl := h_6
  have hw : xW G A s.heap [[(mo, .inr (5, [.int (nI 0), .ref tx, .int (nI sz), .ref nw, .ref tr, .ref dy, .int (nI ac), .ref kp, .ref ik, .ref td, .ref ch, .int (nI sp), .int (nI ou)]))], [(nw, .inl (Y 0, 140, .inl (rowF (cpS kf ρ 0 0 140))))], [(kp, .inl (Y 0, 280, .inl (rowF kf)))], [(ik, .inl (Y 1, 2, .inl fl))]] H locs := hw
  have hw := row_fold (i := 1) (f' := rowF κ) hw rfl (fun q hq => congrArg nI (by clear hret hw hl M hK hZ hx hb; have h9 := cpS_in (f := kf) (g := ρ) (fa := 0) (ta := 0) (k := q) (m := 140) hq; simp only [Nat.zero_add] at h9; rw [h9]; have h8 := hkp q hq; (try simp only [Nat.zero_add] at h8); exact h8.symm))
  have hw : xW G A s.heap [[(mo, .inr (5, [.int (nI 0), .ref tx, .int (nI sz), .ref nw, .ref tr, .ref dy, .int (nI ac), .ref kp, .ref ik, .ref td, .ref ch, .int (nI sp), .int (nI ou)]))], [(nw, .inl (Y 0, 140, .inl (rowF κ)))], [(kp, .inl (Y 0, 280, .inl (rowF kf)))], [(ik, .inl (Y 1, 2, .inl fl))]] H locs := hw
  refine lv_aload_n hx hb dX6_restore_54 rfl (lv_at hl 0 rfl) ?_
  refine lv_iconst (v := (nI 0)) hx hb dX6_restore_55 (by decide) ?_
  refine x_put M hK hw 0 0 rfl rfl fp_X6_158 rfl rfl (Nat.le_of_ble_eq_true rfl) dX6_restore_56 (fun H locs hw => ?_)
  have hw : xW G A s.heap [[(mo, .inr (5, [.int (nI 0), .ref tx, .int (nI sz), .ref nw, .ref tr, .ref dy, .int (nI 0), .ref kp, .ref ik, .ref td, .ref ch, .int (nI sp), .int (nI ou)]))], [(nw, .inl (Y 0, 140, .inl (rowF κ)))], [(kp, .inl (Y 0, 280, .inl (rowF kf)))], [(ik, .inl (Y 1, 2, .inl fl))]] H locs := hw
  refine lv_aload_n hx hb dX6_restore_59 rfl (lv_at hl 0 rfl) ?_
  refine x_get M hK hw 0 0 rfl rfl ff_X6_13 rfl dX6_restore_60 ?_
  refine lv_iconst (v := (nI 0)) hx hb dX6_restore_63 (by decide) ?_
  refine x_iald M hK hw 1 0 rfl rfl (by decide) (by decide) dX6_restore_64 ?_
  exact hret _ _ _ (nI (κ 0)) _ _ dX6_restore_65 hw rfl rfl ⟨rfl, rfl⟩
set_option maxHeartbeats 4000000 in
set_option maxRecDepth 20000 in
theorem f_X6_restore_0 (l : Launch) (G : va_G) (Y : Nat → Nat) (mo rf tx sz nw tr dy ac kp ik td ch sp ou : Nat) (ρ : Nat → Nat) (fl : Nat → Int32) (hf : fl 0 = nI 0) : CtI l yX6_restore cX6_restore 2 .int 1 25 [.ref mo, .int (nI 0)] [[(mo, .inr (5, [.int (nI rf), .ref tx, .int (nI sz), .ref nw, .ref tr, .ref dy, .int (nI ac), .ref kp, .ref ik, .ref td, .ref ch, .int (nI sp), .int (nI ou)]))], [(nw, .inl (Y 0, 140, .inl (rowF ρ)))], [(ik, .inl (Y 1, 2, .inl fl))]] (fun r sg => r = nI 0 ∧ sg = [[(mo, .inr (5, [.int (nI 2), .ref tx, .int (nI sz), .ref nw, .ref tr, .ref dy, .int (nI ac), .ref kp, .ref ik, .ref td, .ref ch, .int (nI sp), .int (nI ou)]))], [(nw, .inl (Y 0, 140, .inl (rowF ρ)))], [(ik, .inl (Y 1, 2, .inl fl))]]) G Y := by
  refine x_ofI (by decide) (Nat.le_of_ble_eq_true rfl) (fun p e s m args below meth c A ls Q M hK hZ hw hl hret => ?_)
  obtain ⟨hx, hb, -⟩ := id M
  have hl : lv_has ls 2 [(0, .ref mo), (1, .int (nI 0))] := hl
  refine lv_aload_n hx hb dX6_restore_0 rfl (lv_at hl 0 rfl) ?_
  refine lv_iload_n hx hb dX6_restore_1 rfl (lv_at hl 1 rfl) ?_
  refine lv_i2l (v := (nI 0).toInt64) hx hb dX6_restore_2 rfl ?_
  refine lv_lconst (v := 0) hx hb dX6_restore_3 (by decide) ?_
  refine lv_lconst (v := 1) hx hb dX6_restore_4 (by decide) ?_
  refine x_cSI (As := [.long ((nI 0).toInt64), .long 0, .long 1]) (k_X6_in l G Y ((nI 0).toInt64) 0 1) cw_X6_45 [] M hK hZ hw hl.1 rfl (by decide) ⟨by decide, by decide⟩ ⟨Nat.zero_le _, Nat.zero_le _⟩ rfl rfl (Nat.le_of_ble_eq_true rfl) dX6_restore_5 (fun r sg h_1 H locs hw => ?_)
  obtain ⟨rfl, rfl⟩ := h_1
  have hw : xW G A s.heap [[(mo, .inr (5, [.int (nI rf), .ref tx, .int (nI sz), .ref nw, .ref tr, .ref dy, .int (nI ac), .ref kp, .ref ik, .ref td, .ref ch, .int (nI sp), .int (nI ou)]))], [(nw, .inl (Y 0, 140, .inl (rowF ρ)))], [(ik, .inl (Y 1, 2, .inl fl))]] H locs := hw
  refine x_topI (y := b2i (inZ (nI 0).toInt 0 1)) (by rw [Int32.toInt_toInt64]; rfl) ?_
  refine x_bne M (tgt := 15) dX6_restore_8 (by decide) (fun c_2 => ?_) (fun c_2 => absurd c_2 (fun z => pzF z (by omega) ⟨by omega, by omega⟩))
  refine lv_aload_n hx hb dX6_restore_15 rfl (lv_at hl 0 rfl) ?_
  refine x_get M hK hw 0 0 rfl rfl ff_X6_25 rfl dX6_restore_16 ?_
  refine lv_iload_n hx hb dX6_restore_19 rfl (lv_at hl 1 rfl) ?_
  refine x_zald M hK hw 2 0 rfl rfl (by decide) (by decide) dX6_restore_20 ?_
  refine x_topN (n := 0) hf ?_
  refine x_zne M (tgt := 28) (by decide) dX6_restore_21 (by decide) (fun c_3 => absurd c_3 (by decide)) (fun c_3 => ?_)
  refine lv_iconst (v := (nI 2)) hx hb dX6_restore_24 (by decide) ?_
  refine lv_goto (tgt := 29) hx hb dX6_restore_25 (by decide) ?_
  refine x_cVI (As := [.int (nI 2)]) (k_X6_refused l G Y mo rf tx sz nw tr dy ac kp ik td ch sp ou 2 (by omega)) cw_X6_103 [0] 0 0 M hK hZ hw hl.1 rfl (by decide) rfl rfl rfl ⟨by decide, by decide⟩ ⟨Nat.zero_le _, Nat.zero_le _⟩ rfl rfl (Nat.le_of_ble_eq_true rfl) dX6_restore_29 (fun r sg h_4 H locs hw => ?_)
  obtain ⟨rfl, rfl⟩ := h_4
  have hw : xW G A s.heap [[(mo, .inr (5, [.int (nI 2), .ref tx, .int (nI sz), .ref nw, .ref tr, .ref dy, .int (nI ac), .ref kp, .ref ik, .ref td, .ref ch, .int (nI sp), .int (nI ou)]))], [(nw, .inl (Y 0, 140, .inl (rowF ρ)))], [(ik, .inl (Y 1, 2, .inl fl))]] H locs := hw
  refine x_beq M (tgt := 37) dX6_restore_32 (by decide) (fun c_5 => absurd c_5 (fun z => by first | exact absurd z (by decide) | (have := of_decide_eq_true z; omega) | (have := of_decide_eq_false z; omega))) (fun c_5 => ?_)
  refine lv_iconst (v := (nI 0)) hx hb dX6_restore_35 (by decide) ?_
  exact hret _ _ _ (nI 0) _ _ dX6_restore_36 hw rfl rfl ⟨rfl, rfl⟩
set_option maxHeartbeats 4000000 in
set_option maxRecDepth 20000 in
theorem k_X6_restore_1 (l : Launch) (G : va_G) (Y : Nat → Nat) (mo rf tx sz nw tr dy ac kp ik td ch sp ou : Nat) (ρ : Nat → Nat) (κ kf : Nat → Nat) (fl : Nat → Int32) (hkp : ∀ q, q < 140 → kf (140 + q) = κ q) (hf : fl 1 = nI 1) : CtI l yX6_restore cX6_restore 2 .int 1 25 [.ref mo, .int (nI 1)] [[(mo, .inr (5, [.int (nI rf), .ref tx, .int (nI sz), .ref nw, .ref tr, .ref dy, .int (nI ac), .ref kp, .ref ik, .ref td, .ref ch, .int (nI sp), .int (nI ou)]))], [(nw, .inl (Y 0, 140, .inl (rowF ρ)))], [(kp, .inl (Y 0, 280, .inl (rowF kf)))], [(ik, .inl (Y 1, 2, .inl fl))]] (fun r sg => r = nI (κ 0) ∧ sg = [[(mo, .inr (5, [.int (nI 0), .ref tx, .int (nI sz), .ref nw, .ref tr, .ref dy, .int (nI 0), .ref kp, .ref ik, .ref td, .ref ch, .int (nI sp), .int (nI ou)]))], [(nw, .inl (Y 0, 140, .inl (rowF κ)))], [(kp, .inl (Y 0, 280, .inl (rowF kf)))], [(ik, .inl (Y 1, 2, .inl fl))]]) G Y := by
  refine x_ofI (by decide) (Nat.le_of_ble_eq_true rfl) (fun p e s m args below meth c A ls Q M hK hZ hw hl hret => ?_)
  obtain ⟨hx, hb, -⟩ := id M
  have hl : lv_has ls 2 [(0, .ref mo), (1, .int (nI 1))] := hl
  refine lv_aload_n hx hb dX6_restore_0 rfl (lv_at hl 0 rfl) ?_
  refine lv_iload_n hx hb dX6_restore_1 rfl (lv_at hl 1 rfl) ?_
  refine lv_i2l (v := (nI 1).toInt64) hx hb dX6_restore_2 rfl ?_
  refine lv_lconst (v := 0) hx hb dX6_restore_3 (by decide) ?_
  refine lv_lconst (v := 1) hx hb dX6_restore_4 (by decide) ?_
  refine x_cSI (As := [.long ((nI 1).toInt64), .long 0, .long 1]) (k_X6_in l G Y ((nI 1).toInt64) 0 1) cw_X6_45 [] M hK hZ hw hl.1 rfl (by decide) ⟨by decide, by decide⟩ ⟨Nat.zero_le _, Nat.zero_le _⟩ rfl rfl (Nat.le_of_ble_eq_true rfl) dX6_restore_5 (fun r sg h_1 H locs hw => ?_)
  obtain ⟨rfl, rfl⟩ := h_1
  have hw : xW G A s.heap [[(mo, .inr (5, [.int (nI rf), .ref tx, .int (nI sz), .ref nw, .ref tr, .ref dy, .int (nI ac), .ref kp, .ref ik, .ref td, .ref ch, .int (nI sp), .int (nI ou)]))], [(nw, .inl (Y 0, 140, .inl (rowF ρ)))], [(kp, .inl (Y 0, 280, .inl (rowF kf)))], [(ik, .inl (Y 1, 2, .inl fl))]] H locs := hw
  refine x_topI (y := b2i (inZ (nI 1).toInt 0 1)) (by rw [Int32.toInt_toInt64]; rfl) ?_
  refine x_bne M (tgt := 15) dX6_restore_8 (by decide) (fun c_2 => ?_) (fun c_2 => absurd c_2 (fun z => pzF z (by omega) ⟨by omega, by omega⟩))
  refine lv_aload_n hx hb dX6_restore_15 rfl (lv_at hl 0 rfl) ?_
  refine x_get M hK hw 0 0 rfl rfl ff_X6_25 rfl dX6_restore_16 ?_
  refine lv_iload_n hx hb dX6_restore_19 rfl (lv_at hl 1 rfl) ?_
  refine x_zald M hK hw 3 0 rfl rfl (by decide) (by decide) dX6_restore_20 ?_
  refine x_topN (n := 1) hf ?_
  refine x_zne M (tgt := 28) (by decide) dX6_restore_21 (by decide) (fun c_3 => ?_) (fun c_3 => absurd c_3 (by decide))
  refine lv_iconst (v := (nI 0)) hx hb dX6_restore_28 (by decide) ?_
  refine x_cVI (As := [.int (nI 0)]) (k_X6_refused l G Y mo rf tx sz nw tr dy ac kp ik td ch sp ou 0 (by omega)) cw_X6_103 [0] 0 0 M hK hZ hw hl.1 rfl (by decide) rfl rfl rfl ⟨by decide, by decide⟩ ⟨Nat.zero_le _, Nat.zero_le _⟩ rfl rfl (Nat.le_of_ble_eq_true rfl) dX6_restore_29 (fun r sg h_4 H locs hw => ?_)
  obtain ⟨rfl, rfl⟩ := h_4
  have hw : xW G A s.heap [[(mo, .inr (5, [.int (nI 0), .ref tx, .int (nI sz), .ref nw, .ref tr, .ref dy, .int (nI ac), .ref kp, .ref ik, .ref td, .ref ch, .int (nI sp), .int (nI ou)]))], [(nw, .inl (Y 0, 140, .inl (rowF ρ)))], [(kp, .inl (Y 0, 280, .inl (rowF kf)))], [(ik, .inl (Y 1, 2, .inl fl))]] H locs := hw
  refine x_beq M (tgt := 37) dX6_restore_32 (by decide) (fun c_5 => ?_) (fun c_5 => absurd c_5 (fun z => by first | exact absurd z (by decide) | (have := of_decide_eq_true z; omega) | (have := of_decide_eq_false z; omega)))
  refine lv_aload_n hx hb dX6_restore_37 rfl (lv_at hl 0 rfl) ?_
  refine x_get M hK hw 0 0 rfl rfl ff_X6_22 rfl dX6_restore_38 ?_
  refine lv_sipush (v := (nI 140)) hx hb dX6_restore_41 (by decide) ?_
  refine lv_iload_n hx hb dX6_restore_44 rfl (lv_at hl 1 rfl) ?_
  refine x_imul M (n := 140) dX6_restore_45 rfl ?_
  refine lv_aload_n hx hb dX6_restore_46 rfl (lv_at hl 0 rfl) ?_
  refine x_get M hK hw 0 0 rfl rfl ff_X6_13 rfl dX6_restore_47 ?_
  refine lv_iconst (v := (nI 0)) hx hb dX6_restore_50 (by decide) ?_
  refine x_cSV (As := [.ref kp, .int (nI 140), .ref nw, .int (nI 0)]) (k_X6_copyState l G Y kp nw 280 140 140 0 kf ρ (by omega) (by omega) (by omega) (by omega)) cw_X6_154 [2, 1] M hK hZ hw hl.1 rfl (by decide) ⟨by decide, by decide⟩ ⟨Nat.zero_le _, Nat.zero_le _⟩ rfl rfl (Nat.le_of_ble_eq_true rfl) dX6_restore_51 (fun sg h_6 H locs hw => ?_)
  obtain rfl := h_6
  have hw : xW G A s.heap [[(mo, .inr (5, [.int (nI 0), .ref tx, .int (nI sz), .ref nw, .ref tr, .ref dy, .int (nI ac), .ref kp, .ref ik, .ref td, .ref ch, .int (nI sp), .int (nI ou)]))], [(nw, .inl (Y 0, 140, .inl (rowF (cpS kf ρ 140 0 140))))], [(kp, .inl (Y 0, 280, .inl (rowF kf)))], [(ik, .inl (Y 1, 2, .inl fl))]] H locs := hw
  have hw := row_fold (i := 1) (f' := rowF κ) hw rfl (fun q hq => congrArg nI (by clear hret hw hl M hK hZ hx hb; have h9 := cpS_in (f := kf) (g := ρ) (fa := 140) (ta := 0) (k := q) (m := 140) hq; simp only [Nat.zero_add] at h9; rw [h9]; have h8 := hkp q hq; (try simp only [Nat.zero_add] at h8); exact h8.symm))
  have hw : xW G A s.heap [[(mo, .inr (5, [.int (nI 0), .ref tx, .int (nI sz), .ref nw, .ref tr, .ref dy, .int (nI ac), .ref kp, .ref ik, .ref td, .ref ch, .int (nI sp), .int (nI ou)]))], [(nw, .inl (Y 0, 140, .inl (rowF κ)))], [(kp, .inl (Y 0, 280, .inl (rowF kf)))], [(ik, .inl (Y 1, 2, .inl fl))]] H locs := hw
  refine lv_aload_n hx hb dX6_restore_54 rfl (lv_at hl 0 rfl) ?_
  refine lv_iconst (v := (nI 0)) hx hb dX6_restore_55 (by decide) ?_
  refine x_put M hK hw 0 0 rfl rfl fp_X6_158 rfl rfl (Nat.le_of_ble_eq_true rfl) dX6_restore_56 (fun H locs hw => ?_)
  have hw : xW G A s.heap [[(mo, .inr (5, [.int (nI 0), .ref tx, .int (nI sz), .ref nw, .ref tr, .ref dy, .int (nI 0), .ref kp, .ref ik, .ref td, .ref ch, .int (nI sp), .int (nI ou)]))], [(nw, .inl (Y 0, 140, .inl (rowF κ)))], [(kp, .inl (Y 0, 280, .inl (rowF kf)))], [(ik, .inl (Y 1, 2, .inl fl))]] H locs := hw
  refine lv_aload_n hx hb dX6_restore_59 rfl (lv_at hl 0 rfl) ?_
  refine x_get M hK hw 0 0 rfl rfl ff_X6_13 rfl dX6_restore_60 ?_
  refine lv_iconst (v := (nI 0)) hx hb dX6_restore_63 (by decide) ?_
  refine x_iald M hK hw 1 0 rfl rfl (by decide) (by decide) dX6_restore_64 ?_
  exact hret _ _ _ (nI (κ 0)) _ _ dX6_restore_65 hw rfl rfl ⟨rfl, rfl⟩
set_option maxHeartbeats 4000000 in
set_option maxRecDepth 20000 in
theorem f_X6_restore_1 (l : Launch) (G : va_G) (Y : Nat → Nat) (mo rf tx sz nw tr dy ac kp ik td ch sp ou : Nat) (ρ : Nat → Nat) (fl : Nat → Int32) (hf : fl 1 = nI 0) : CtI l yX6_restore cX6_restore 2 .int 1 25 [.ref mo, .int (nI 1)] [[(mo, .inr (5, [.int (nI rf), .ref tx, .int (nI sz), .ref nw, .ref tr, .ref dy, .int (nI ac), .ref kp, .ref ik, .ref td, .ref ch, .int (nI sp), .int (nI ou)]))], [(nw, .inl (Y 0, 140, .inl (rowF ρ)))], [(ik, .inl (Y 1, 2, .inl fl))]] (fun r sg => r = nI 0 ∧ sg = [[(mo, .inr (5, [.int (nI 2), .ref tx, .int (nI sz), .ref nw, .ref tr, .ref dy, .int (nI ac), .ref kp, .ref ik, .ref td, .ref ch, .int (nI sp), .int (nI ou)]))], [(nw, .inl (Y 0, 140, .inl (rowF ρ)))], [(ik, .inl (Y 1, 2, .inl fl))]]) G Y := by
  refine x_ofI (by decide) (Nat.le_of_ble_eq_true rfl) (fun p e s m args below meth c A ls Q M hK hZ hw hl hret => ?_)
  obtain ⟨hx, hb, -⟩ := id M
  have hl : lv_has ls 2 [(0, .ref mo), (1, .int (nI 1))] := hl
  refine lv_aload_n hx hb dX6_restore_0 rfl (lv_at hl 0 rfl) ?_
  refine lv_iload_n hx hb dX6_restore_1 rfl (lv_at hl 1 rfl) ?_
  refine lv_i2l (v := (nI 1).toInt64) hx hb dX6_restore_2 rfl ?_
  refine lv_lconst (v := 0) hx hb dX6_restore_3 (by decide) ?_
  refine lv_lconst (v := 1) hx hb dX6_restore_4 (by decide) ?_
  refine x_cSI (As := [.long ((nI 1).toInt64), .long 0, .long 1]) (k_X6_in l G Y ((nI 1).toInt64) 0 1) cw_X6_45 [] M hK hZ hw hl.1 rfl (by decide) ⟨by decide, by decide⟩ ⟨Nat.zero_le _, Nat.zero_le _⟩ rfl rfl (Nat.le_of_ble_eq_true rfl) dX6_restore_5 (fun r sg h_1 H locs hw => ?_)
  obtain ⟨rfl, rfl⟩ := h_1
  have hw : xW G A s.heap [[(mo, .inr (5, [.int (nI rf), .ref tx, .int (nI sz), .ref nw, .ref tr, .ref dy, .int (nI ac), .ref kp, .ref ik, .ref td, .ref ch, .int (nI sp), .int (nI ou)]))], [(nw, .inl (Y 0, 140, .inl (rowF ρ)))], [(ik, .inl (Y 1, 2, .inl fl))]] H locs := hw
  refine x_topI (y := b2i (inZ (nI 1).toInt 0 1)) (by rw [Int32.toInt_toInt64]; rfl) ?_
  refine x_bne M (tgt := 15) dX6_restore_8 (by decide) (fun c_2 => ?_) (fun c_2 => absurd c_2 (fun z => pzF z (by omega) ⟨by omega, by omega⟩))
  refine lv_aload_n hx hb dX6_restore_15 rfl (lv_at hl 0 rfl) ?_
  refine x_get M hK hw 0 0 rfl rfl ff_X6_25 rfl dX6_restore_16 ?_
  refine lv_iload_n hx hb dX6_restore_19 rfl (lv_at hl 1 rfl) ?_
  refine x_zald M hK hw 2 0 rfl rfl (by decide) (by decide) dX6_restore_20 ?_
  refine x_topN (n := 0) hf ?_
  refine x_zne M (tgt := 28) (by decide) dX6_restore_21 (by decide) (fun c_3 => absurd c_3 (by decide)) (fun c_3 => ?_)
  refine lv_iconst (v := (nI 2)) hx hb dX6_restore_24 (by decide) ?_
  refine lv_goto (tgt := 29) hx hb dX6_restore_25 (by decide) ?_
  refine x_cVI (As := [.int (nI 2)]) (k_X6_refused l G Y mo rf tx sz nw tr dy ac kp ik td ch sp ou 2 (by omega)) cw_X6_103 [0] 0 0 M hK hZ hw hl.1 rfl (by decide) rfl rfl rfl ⟨by decide, by decide⟩ ⟨Nat.zero_le _, Nat.zero_le _⟩ rfl rfl (Nat.le_of_ble_eq_true rfl) dX6_restore_29 (fun r sg h_4 H locs hw => ?_)
  obtain ⟨rfl, rfl⟩ := h_4
  have hw : xW G A s.heap [[(mo, .inr (5, [.int (nI 2), .ref tx, .int (nI sz), .ref nw, .ref tr, .ref dy, .int (nI ac), .ref kp, .ref ik, .ref td, .ref ch, .int (nI sp), .int (nI ou)]))], [(nw, .inl (Y 0, 140, .inl (rowF ρ)))], [(ik, .inl (Y 1, 2, .inl fl))]] H locs := hw
  refine x_beq M (tgt := 37) dX6_restore_32 (by decide) (fun c_5 => absurd c_5 (fun z => by first | exact absurd z (by decide) | (have := of_decide_eq_true z; omega) | (have := of_decide_eq_false z; omega))) (fun c_5 => ?_)
  refine lv_iconst (v := (nI 0)) hx hb dX6_restore_35 (by decide) ?_
  exact hret _ _ _ (nI 0) _ _ dX6_restore_36 hw rfl rfl ⟨rfl, rfl⟩
set_option maxHeartbeats 4000000 in
set_option maxRecDepth 20000 in
theorem f_X6_restore (l : Launch) (G : va_G) (Y : Nat → Nat) (mo rf tx sz nw tr dy ac kp ik td ch sp ou : Nat) (ρ : Nat → Nat) (k : Int32) (hk : inZ k.toInt 0 1 = false) : CtI l yX6_restore cX6_restore 2 .int 1 25 [.ref mo, .int k] [[(mo, .inr (5, [.int (nI rf), .ref tx, .int (nI sz), .ref nw, .ref tr, .ref dy, .int (nI ac), .ref kp, .ref ik, .ref td, .ref ch, .int (nI sp), .int (nI ou)]))], [(nw, .inl (Y 0, 140, .inl (rowF ρ)))]] (fun r sg => r = nI 0 ∧ sg = [[(mo, .inr (5, [.int (nI 1), .ref tx, .int (nI sz), .ref nw, .ref tr, .ref dy, .int (nI ac), .ref kp, .ref ik, .ref td, .ref ch, .int (nI sp), .int (nI ou)]))], [(nw, .inl (Y 0, 140, .inl (rowF ρ)))]]) G Y := by
  refine x_ofI (by decide) (Nat.le_of_ble_eq_true rfl) (fun p e s m args below meth c A ls Q M hK hZ hw hl hret => ?_)
  obtain ⟨hx, hb, -⟩ := id M
  have hl : lv_has ls 2 [(0, .ref mo), (1, .int k)] := hl
  refine lv_aload_n hx hb dX6_restore_0 rfl (lv_at hl 0 rfl) ?_
  refine lv_iload_n hx hb dX6_restore_1 rfl (lv_at hl 1 rfl) ?_
  refine lv_i2l (v := k.toInt64) hx hb dX6_restore_2 rfl ?_
  refine lv_lconst (v := 0) hx hb dX6_restore_3 (by decide) ?_
  refine lv_lconst (v := 1) hx hb dX6_restore_4 (by decide) ?_
  refine x_cSI (As := [.long k.toInt64, .long 0, .long 1]) (k_X6_in l G Y k.toInt64 0 1) cw_X6_45 [] M hK hZ hw hl.1 rfl (by decide) ⟨by decide, by decide⟩ ⟨Nat.zero_le _, Nat.zero_le _⟩ rfl rfl (Nat.le_of_ble_eq_true rfl) dX6_restore_5 (fun r sg h_1 H locs hw => ?_)
  obtain ⟨rfl, rfl⟩ := h_1
  have hw : xW G A s.heap [[(mo, .inr (5, [.int (nI rf), .ref tx, .int (nI sz), .ref nw, .ref tr, .ref dy, .int (nI ac), .ref kp, .ref ik, .ref td, .ref ch, .int (nI sp), .int (nI ou)]))], [(nw, .inl (Y 0, 140, .inl (rowF ρ)))]] H locs := hw
  refine x_topI (y := b2i (inZ k.toInt 0 1)) (by rw [Int32.toInt_toInt64]; rfl) ?_
  refine x_bne M (tgt := 15) dX6_restore_8 (by decide) (fun c_2 => absurd c_2 (fun z => by have h9 := z; rw [hk] at h9; exact absurd h9 (by decide))) (fun c_2 => ?_)
  refine lv_iconst (v := (nI 1)) hx hb dX6_restore_11 (by decide) ?_
  refine lv_goto (tgt := 29) hx hb dX6_restore_12 (by decide) ?_
  refine x_cVI (As := [.int (nI 1)]) (k_X6_refused l G Y mo rf tx sz nw tr dy ac kp ik td ch sp ou 1 (by omega)) cw_X6_103 [0] 0 0 M hK hZ hw hl.1 rfl (by decide) rfl rfl rfl ⟨by decide, by decide⟩ ⟨Nat.zero_le _, Nat.zero_le _⟩ rfl rfl (Nat.le_of_ble_eq_true rfl) dX6_restore_29 (fun r sg h_3 H locs hw => ?_)
  obtain ⟨rfl, rfl⟩ := h_3
  have hw : xW G A s.heap [[(mo, .inr (5, [.int (nI 1), .ref tx, .int (nI sz), .ref nw, .ref tr, .ref dy, .int (nI ac), .ref kp, .ref ik, .ref td, .ref ch, .int (nI sp), .int (nI ou)]))], [(nw, .inl (Y 0, 140, .inl (rowF ρ)))]] H locs := hw
  refine x_beq M (tgt := 37) dX6_restore_32 (by decide) (fun c_4 => absurd c_4 (fun z => by first | exact absurd z (by decide) | (have := of_decide_eq_true z; omega) | (have := of_decide_eq_false z; omega))) (fun c_4 => ?_)
  refine lv_iconst (v := (nI 0)) hx hb dX6_restore_35 (by decide) ?_
  exact hret _ _ _ (nI 0) _ _ dX6_restore_36 hw rfl rfl ⟨rfl, rfl⟩
