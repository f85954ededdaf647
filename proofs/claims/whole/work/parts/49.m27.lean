set_option maxHeartbeats 4000000 in
set_option maxRecDepth 20000 in
theorem k_X6_refused (l : Launch) (G : va_G) (Y : Nat → Nat) (mo rf tx sz nw tr dy ac kp ik td ch sp ou : Nat) (w : Nat) (hw2 : w < 2 ^ 31) : CtI l yX6_refused cX6_refused 2 .boolean 0 0 [.ref mo, .int (nI w)] [[(mo, .inr (5, [.int (nI rf), .ref tx, .int (nI sz), .ref nw, .ref tr, .ref dy, .int (nI ac), .ref kp, .ref ik, .ref td, .ref ch, .int (nI sp), .int (nI ou)]))]] (fun r sg => r = b2i (decide (0 < w)) ∧ sg = [[(mo, .inr (5, [.int (nI w), .ref tx, .int (nI sz), .ref nw, .ref tr, .ref dy, .int (nI ac), .ref kp, .ref ik, .ref td, .ref ch, .int (nI sp), .int (nI ou)]))]]) G Y := by
  refine x_ofI (by decide) (Nat.le_of_ble_eq_true rfl) (fun p e s m args below meth c A ls Q M hK hZ hw hl hret => ?_)
  obtain ⟨hx, hb, -⟩ := id M
  have hl : lv_has ls 2 [(0, .ref mo), (1, .int (nI w))] := hl
  refine lv_aload_n hx hb dX6_refused_0 rfl (lv_at hl 0 rfl) ?_
  refine lv_iload_n hx hb dX6_refused_1 rfl (lv_at hl 1 rfl) ?_
  refine x_put M hK hw 0 0 rfl rfl fp_X6_39 rfl rfl (Nat.le_of_ble_eq_true rfl) dX6_refused_2 (fun H locs hw => ?_)
  have hw : xW G A s.heap [[(mo, .inr (5, [.int (nI w), .ref tx, .int (nI sz), .ref nw, .ref tr, .ref dy, .int (nI ac), .ref kp, .ref ik, .ref td, .ref ch, .int (nI sp), .int (nI ou)]))]] H locs := hw
  refine lv_iload_n hx hb dX6_refused_5 rfl (lv_at hl 1 rfl) ?_
  refine x_zle M (tgt := 13) (by omega) dX6_refused_6 (by decide) (fun c_1 => ?_) (fun c_1 => ?_)
  · refine lv_iconst (v := (nI 0)) hx hb dX6_refused_13 (by decide) ?_
    exact hret _ _ _ (nI 0) _ _ dX6_refused_14 hw rfl rfl ⟨b2i_f (decide_eq_false (by omega)), rfl⟩
  refine lv_iconst (v := (nI 1)) hx hb dX6_refused_9 (by decide) ?_
  refine lv_goto (tgt := 14) hx hb dX6_refused_10 (by decide) ?_
  exact hret _ _ _ (nI 1) _ _ dX6_refused_14 hw rfl rfl ⟨b2i_t (decide_eq_true (by omega)), rfl⟩
set_option maxHeartbeats 4000000 in
set_option maxRecDepth 20000 in
theorem k_X6_thrown (l : Launch) (G : va_G) (Y : Nat → Nat) (mo rf tx sz nw tr dy ac kp ik td ch sp ou : Nat)  : CtI l yX6_thrown cX6_thrown 1 .int 0 0 [.ref mo] [[(mo, .inr (5, [.int (nI rf), .ref tx, .int (nI sz), .ref nw, .ref tr, .ref dy, .int (nI ac), .ref kp, .ref ik, .ref td, .ref ch, .int (nI sp), .int (nI ou)]))]] (fun r sg => r = nI rf ∧ sg = [[(mo, .inr (5, [.int (nI rf), .ref tx, .int (nI sz), .ref nw, .ref tr, .ref dy, .int (nI ac), .ref kp, .ref ik, .ref td, .ref ch, .int (nI sp), .int (nI ou)]))]]) G Y := by
  refine x_ofI (by decide) (Nat.le_of_ble_eq_true rfl) (fun p e s m args below meth c A ls Q M hK hZ hw hl hret => ?_)
  obtain ⟨hx, hb, -⟩ := id M
  have hl : lv_has ls 1 [(0, .ref mo)] := hl
  refine lv_aload_n hx hb dX6_thrown_0 rfl (lv_at hl 0 rfl) ?_
  refine x_get M hK hw 0 0 rfl rfl ff_X6_39 rfl dX6_thrown_1 ?_
  exact hret _ _ _ (nI rf) _ _ dX6_thrown_4 hw rfl rfl ⟨rfl, rfl⟩
set_option maxHeartbeats 4000000 in
set_option maxRecDepth 20000 in
theorem k_X6_append (l : Launch) (G : va_G) (Y : Nat → Nat) (mo rf tx sz nw tr dy ac kp ik td ch sp ou : Nat) (lt : Nat → Nat) (cx : Nat) (hn : sz ≤ 120) (hlt : ∀ i, i < 120 → lt i < 256) (hc : cx < 256) (hn2 : sz < 120) : CtI l yX6_append cX6_append 2 .int 1 25 [.ref mo, .int (nI cx)] [[(mo, .inr (5, [.int (nI rf), .ref tx, .int (nI sz), .ref nw, .ref tr, .ref dy, .int (nI ac), .ref kp, .ref ik, .ref td, .ref ch, .int (nI sp), .int (nI ou)]))], [(tx, .inl (Y 0, 120, .inl (rowF lt)))]] (fun r sg => r = nI (1 + sz) ∧ sg = [[(mo, .inr (5, [.int (nI 0), .ref tx, .int (nI (1 + sz)), .ref nw, .ref tr, .ref dy, .int (nI ac), .ref kp, .ref ik, .ref td, .ref ch, .int (nI sp), .int (nI ou)]))], [(tx, .inl (Y 0, 120, .inl (rowF (setN lt sz cx))))]]) G Y := by
  refine x_ofI (by decide) (Nat.le_of_ble_eq_true rfl) (fun p e s m args below meth c A ls Q M hK hZ hw hl hret => ?_)
  obtain ⟨hx, hb, -⟩ := id M
  have hl : lv_has ls 2 [(0, .ref mo), (1, .int (nI cx))] := hl
  refine lv_aload_n hx hb dX6_append_0 rfl (lv_at hl 0 rfl) ?_
  refine lv_iload_n hx hb dX6_append_1 rfl (lv_at hl 1 rfl) ?_
  refine lv_i2l (v := (nI cx).toInt64) hx hb dX6_append_2 rfl ?_
  refine lv_lconst (v := 0) hx hb dX6_append_3 (by decide) ?_
  refine lv_ldc2 (v := 255) hx hb M.2.2.2.1 (M.2.2.2.2 _ mw_1047) dX6_append_4 ?_
  refine x_cSI (As := [.long ((nI cx).toInt64), .long 0, .long 255]) (k_X6_in l G Y ((nI cx).toInt64) 0 255) cw_X6_45 [] M hK hZ hw hl.1 rfl (by decide) ⟨by decide, by decide⟩ ⟨Nat.zero_le _, Nat.zero_le _⟩ rfl rfl (Nat.le_of_ble_eq_true rfl) dX6_append_7 (fun r sg h_1 H locs hw => ?_)
  obtain ⟨rfl, rfl⟩ := h_1
  have hw : xW G A s.heap [[(mo, .inr (5, [.int (nI rf), .ref tx, .int (nI sz), .ref nw, .ref tr, .ref dy, .int (nI ac), .ref kp, .ref ik, .ref td, .ref ch, .int (nI sp), .int (nI ou)]))], [(tx, .inl (Y 0, 120, .inl (rowF lt)))]] H locs := hw
  refine x_topI (y := b2i (inZ (nI cx).toInt 0 255)) (by rw [Int32.toInt_toInt64]; rfl) ?_
  refine x_bne M (tgt := 17) dX6_append_10 (by decide) (fun c_2 => ?_) (fun c_2 => absurd c_2 (fun z => pzF z (by omega) ⟨by omega, by omega⟩))
  refine lv_aload_n hx hb dX6_append_17 rfl (lv_at hl 0 rfl) ?_
  refine x_get M hK hw 0 0 rfl rfl ff_X6_100 rfl dX6_append_18 ?_
  refine lv_bipush (v := (nI 120)) hx hb dX6_append_21 (by decide) ?_
  refine x_cne M (tgt := 30) (by omega) (by decide) dX6_append_23 (by decide) (fun c_3 => ?_) (fun c_3 => absurd c_3 (by omega))
  refine lv_iconst (v := (nI 0)) hx hb dX6_append_30 (by decide) ?_
  refine x_cVI (As := [.int (nI 0)]) (k_X6_refused l G Y mo rf tx sz nw tr dy ac kp ik td ch sp ou 0 (by omega)) cw_X6_103 [0] 0 0 M hK hZ hw hl.1 rfl (by decide) rfl rfl rfl ⟨by decide, by decide⟩ ⟨Nat.zero_le _, Nat.zero_le _⟩ rfl rfl (Nat.le_of_ble_eq_true rfl) dX6_append_31 (fun r sg h_4 H locs hw => ?_)
  obtain ⟨rfl, rfl⟩ := h_4
  have hw : xW G A s.heap [[(mo, .inr (5, [.int (nI 0), .ref tx, .int (nI sz), .ref nw, .ref tr, .ref dy, .int (nI ac), .ref kp, .ref ik, .ref td, .ref ch, .int (nI sp), .int (nI ou)]))], [(tx, .inl (Y 0, 120, .inl (rowF lt)))]] H locs := hw
  refine x_beq M (tgt := 39) dX6_append_34 (by decide) (fun c_5 => ?_) (fun c_5 => absurd c_5 (fun z => by first | exact absurd z (by decide) | (have := of_decide_eq_true z; omega) | (have := of_decide_eq_false z; omega)))
  refine lv_aload_n hx hb dX6_append_39 rfl (lv_at hl 0 rfl) ?_
  refine x_get M hK hw 0 0 rfl rfl ff_X6_7 rfl dX6_append_40 ?_
  refine lv_aload_n hx hb dX6_append_43 rfl (lv_at hl 0 rfl) ?_
  refine x_get M hK hw 0 0 rfl rfl ff_X6_100 rfl dX6_append_44 ?_
  refine lv_iload_n hx hb dX6_append_47 rfl (lv_at hl 1 rfl) ?_
  refine x_iast M hK hw 1 0 rfl rfl (by omega) (by decide) dX6_append_48 (fun H locs hw => ?_)
  rw [upd_row] at hw
  have hw : xW G A s.heap [[(mo, .inr (5, [.int (nI 0), .ref tx, .int (nI sz), .ref nw, .ref tr, .ref dy, .int (nI ac), .ref kp, .ref ik, .ref td, .ref ch, .int (nI sp), .int (nI ou)]))], [(tx, .inl (Y 0, 120, .inl (rowF (setN lt sz cx))))]] H locs := hw
  refine lv_aload_n hx hb dX6_append_49 rfl (lv_at hl 0 rfl) ?_
  refine lv_dup hx hb dX6_append_50 rfl ?_
  refine x_get M hK hw 0 0 rfl rfl ff_X6_100 rfl dX6_append_51 ?_
  refine lv_iconst (v := (nI 1)) hx hb dX6_append_54 (by decide) ?_
  refine x_iadd M (n := 1 + sz) dX6_append_55 (by omega) ?_
  refine x_put M hK hw 0 0 rfl rfl fp_X6_100 rfl rfl (Nat.le_of_ble_eq_true rfl) dX6_append_56 (fun H locs hw => ?_)
  have hw : xW G A s.heap [[(mo, .inr (5, [.int (nI 0), .ref tx, .int (nI (1 + sz)), .ref nw, .ref tr, .ref dy, .int (nI ac), .ref kp, .ref ik, .ref td, .ref ch, .int (nI sp), .int (nI ou)]))], [(tx, .inl (Y 0, 120, .inl (rowF (setN lt sz cx))))]] H locs := hw
  refine lv_aload_n hx hb dX6_append_59 rfl (lv_at hl 0 rfl) ?_
  refine x_get M hK hw 0 0 rfl rfl ff_X6_100 rfl dX6_append_60 ?_
  exact hret _ _ _ (nI (1 + sz)) _ _ dX6_append_63 hw rfl rfl ⟨rfl, rfl⟩
set_option maxHeartbeats 4000000 in
set_option maxRecDepth 20000 in
theorem f_X6_append_1 (l : Launch) (G : va_G) (Y : Nat → Nat) (mo rf tx sz nw tr dy ac kp ik td ch sp ou : Nat) (lt : Nat → Nat) (c1 : Int32) (hn : sz ≤ 120) (hlt : ∀ i, i < 120 → lt i < 256) (hk : inZ c1.toInt 0 255 = false) : CtI l yX6_append cX6_append 2 .int 1 25 [.ref mo, .int c1] [[(mo, .inr (5, [.int (nI rf), .ref tx, .int (nI sz), .ref nw, .ref tr, .ref dy, .int (nI ac), .ref kp, .ref ik, .ref td, .ref ch, .int (nI sp), .int (nI ou)]))], [(tx, .inl (Y 0, 120, .inl (rowF lt)))]] (fun r sg => r = nI 0 ∧ sg = [[(mo, .inr (5, [.int (nI 1), .ref tx, .int (nI sz), .ref nw, .ref tr, .ref dy, .int (nI ac), .ref kp, .ref ik, .ref td, .ref ch, .int (nI sp), .int (nI ou)]))], [(tx, .inl (Y 0, 120, .inl (rowF lt)))]]) G Y := by
  refine x_ofI (by decide) (Nat.le_of_ble_eq_true rfl) (fun p e s m args below meth c A ls Q M hK hZ hw hl hret => ?_)
  obtain ⟨hx, hb, -⟩ := id M
  have hl : lv_has ls 2 [(0, .ref mo), (1, .int c1)] := hl
  refine lv_aload_n hx hb dX6_append_0 rfl (lv_at hl 0 rfl) ?_
  refine lv_iload_n hx hb dX6_append_1 rfl (lv_at hl 1 rfl) ?_
  refine lv_i2l (v := c1.toInt64) hx hb dX6_append_2 rfl ?_
  refine lv_lconst (v := 0) hx hb dX6_append_3 (by decide) ?_
  refine lv_ldc2 (v := 255) hx hb M.2.2.2.1 (M.2.2.2.2 _ mw_1047) dX6_append_4 ?_
  refine x_cSI (As := [.long c1.toInt64, .long 0, .long 255]) (k_X6_in l G Y c1.toInt64 0 255) cw_X6_45 [] M hK hZ hw hl.1 rfl (by decide) ⟨by decide, by decide⟩ ⟨Nat.zero_le _, Nat.zero_le _⟩ rfl rfl (Nat.le_of_ble_eq_true rfl) dX6_append_7 (fun r sg h_1 H locs hw => ?_)
  obtain ⟨rfl, rfl⟩ := h_1
  have hw : xW G A s.heap [[(mo, .inr (5, [.int (nI rf), .ref tx, .int (nI sz), .ref nw, .ref tr, .ref dy, .int (nI ac), .ref kp, .ref ik, .ref td, .ref ch, .int (nI sp), .int (nI ou)]))], [(tx, .inl (Y 0, 120, .inl (rowF lt)))]] H locs := hw
  refine x_topI (y := b2i (inZ c1.toInt 0 255)) (by rw [Int32.toInt_toInt64]; rfl) ?_
  refine x_bne M (tgt := 17) dX6_append_10 (by decide) (fun c_2 => absurd c_2 (fun z => by have h9 := z; rw [hk] at h9; exact absurd h9 (by decide))) (fun c_2 => ?_)
  refine lv_iconst (v := (nI 1)) hx hb dX6_append_13 (by decide) ?_
  refine lv_goto (tgt := 31) hx hb dX6_append_14 (by decide) ?_
  refine x_cVI (As := [.int (nI 1)]) (k_X6_refused l G Y mo rf tx sz nw tr dy ac kp ik td ch sp ou 1 (by omega)) cw_X6_103 [0] 0 0 M hK hZ hw hl.1 rfl (by decide) rfl rfl rfl ⟨by decide, by decide⟩ ⟨Nat.zero_le _, Nat.zero_le _⟩ rfl rfl (Nat.le_of_ble_eq_true rfl) dX6_append_31 (fun r sg h_3 H locs hw => ?_)
  obtain ⟨rfl, rfl⟩ := h_3
  have hw : xW G A s.heap [[(mo, .inr (5, [.int (nI 1), .ref tx, .int (nI sz), .ref nw, .ref tr, .ref dy, .int (nI ac), .ref kp, .ref ik, .ref td, .ref ch, .int (nI sp), .int (nI ou)]))], [(tx, .inl (Y 0, 120, .inl (rowF lt)))]] H locs := hw
  refine x_beq M (tgt := 39) dX6_append_34 (by decide) (fun c_4 => absurd c_4 (fun z => by first | exact absurd z (by decide) | (have := of_decide_eq_true z; omega) | (have := of_decide_eq_false z; omega))) (fun c_4 => ?_)
  refine lv_iconst (v := (nI 0)) hx hb dX6_append_37 (by decide) ?_
  exact hret _ _ _ (nI 0) _ _ dX6_append_38 hw rfl rfl ⟨rfl, rfl⟩
set_option maxHeartbeats 4000000 in
set_option maxRecDepth 20000 in
theorem f_X6_append_2 (l : Launch) (G : va_G) (Y : Nat → Nat) (mo rf tx sz nw tr dy ac kp ik td ch sp ou : Nat) (lt : Nat → Nat) (cx : Nat) (hn : sz ≤ 120) (hlt : ∀ i, i < 120 → lt i < 256) (hc : cx < 256) (hn2 : 120 ≤ sz) : CtI l yX6_append cX6_append 2 .int 1 25 [.ref mo, .int (nI cx)] [[(mo, .inr (5, [.int (nI rf), .ref tx, .int (nI sz), .ref nw, .ref tr, .ref dy, .int (nI ac), .ref kp, .ref ik, .ref td, .ref ch, .int (nI sp), .int (nI ou)]))], [(tx, .inl (Y 0, 120, .inl (rowF lt)))]] (fun r sg => r = nI 0 ∧ sg = [[(mo, .inr (5, [.int (nI 2), .ref tx, .int (nI sz), .ref nw, .ref tr, .ref dy, .int (nI ac), .ref kp, .ref ik, .ref td, .ref ch, .int (nI sp), .int (nI ou)]))], [(tx, .inl (Y 0, 120, .inl (rowF lt)))]]) G Y := by
  refine x_ofI (by decide) (Nat.le_of_ble_eq_true rfl) (fun p e s m args below meth c A ls Q M hK hZ hw hl hret => ?_)
  obtain ⟨hx, hb, -⟩ := id M
  have hl : lv_has ls 2 [(0, .ref mo), (1, .int (nI cx))] := hl
  refine lv_aload_n hx hb dX6_append_0 rfl (lv_at hl 0 rfl) ?_
  refine lv_iload_n hx hb dX6_append_1 rfl (lv_at hl 1 rfl) ?_
  refine lv_i2l (v := (nI cx).toInt64) hx hb dX6_append_2 rfl ?_
  refine lv_lconst (v := 0) hx hb dX6_append_3 (by decide) ?_
  refine lv_ldc2 (v := 255) hx hb M.2.2.2.1 (M.2.2.2.2 _ mw_1047) dX6_append_4 ?_
  refine x_cSI (As := [.long ((nI cx).toInt64), .long 0, .long 255]) (k_X6_in l G Y ((nI cx).toInt64) 0 255) cw_X6_45 [] M hK hZ hw hl.1 rfl (by decide) ⟨by decide, by decide⟩ ⟨Nat.zero_le _, Nat.zero_le _⟩ rfl rfl (Nat.le_of_ble_eq_true rfl) dX6_append_7 (fun r sg h_1 H locs hw => ?_)
  obtain ⟨rfl, rfl⟩ := h_1
  have hw : xW G A s.heap [[(mo, .inr (5, [.int (nI rf), .ref tx, .int (nI sz), .ref nw, .ref tr, .ref dy, .int (nI ac), .ref kp, .ref ik, .ref td, .ref ch, .int (nI sp), .int (nI ou)]))], [(tx, .inl (Y 0, 120, .inl (rowF lt)))]] H locs := hw
  refine x_topI (y := b2i (inZ (nI cx).toInt 0 255)) (by rw [Int32.toInt_toInt64]; rfl) ?_
  refine x_bne M (tgt := 17) dX6_append_10 (by decide) (fun c_2 => ?_) (fun c_2 => absurd c_2 (fun z => pzF z (by omega) ⟨by omega, by omega⟩))
  refine lv_aload_n hx hb dX6_append_17 rfl (lv_at hl 0 rfl) ?_
  refine x_get M hK hw 0 0 rfl rfl ff_X6_100 rfl dX6_append_18 ?_
  refine lv_bipush (v := (nI 120)) hx hb dX6_append_21 (by decide) ?_
  refine x_cne M (tgt := 30) (by omega) (by decide) dX6_append_23 (by decide) (fun c_3 => absurd c_3 (by omega)) (fun c_3 => ?_)
  refine lv_iconst (v := (nI 2)) hx hb dX6_append_26 (by decide) ?_
  refine lv_goto (tgt := 31) hx hb dX6_append_27 (by decide) ?_
  refine x_cVI (As := [.int (nI 2)]) (k_X6_refused l G Y mo rf tx sz nw tr dy ac kp ik td ch sp ou 2 (by omega)) cw_X6_103 [0] 0 0 M hK hZ hw hl.1 rfl (by decide) rfl rfl rfl ⟨by decide, by decide⟩ ⟨Nat.zero_le _, Nat.zero_le _⟩ rfl rfl (Nat.le_of_ble_eq_true rfl) dX6_append_31 (fun r sg h_4 H locs hw => ?_)
  obtain ⟨rfl, rfl⟩ := h_4
  have hw : xW G A s.heap [[(mo, .inr (5, [.int (nI 2), .ref tx, .int (nI sz), .ref nw, .ref tr, .ref dy, .int (nI ac), .ref kp, .ref ik, .ref td, .ref ch, .int (nI sp), .int (nI ou)]))], [(tx, .inl (Y 0, 120, .inl (rowF lt)))]] H locs := hw
  refine x_beq M (tgt := 39) dX6_append_34 (by decide) (fun c_5 => absurd c_5 (fun z => by first | exact absurd z (by decide) | (have := of_decide_eq_true z; omega) | (have := of_decide_eq_false z; omega))) (fun c_5 => ?_)
  refine lv_iconst (v := (nI 0)) hx hb dX6_append_37 (by decide) ?_
  exact hret _ _ _ (nI 0) _ _ dX6_append_38 hw rfl rfl ⟨rfl, rfl⟩
set_option maxHeartbeats 4000000 in
set_option maxRecDepth 20000 in
theorem k_X6_clearText (l : Launch) (G : va_G) (Y : Nat → Nat) (mo rf tx sz nw tr dy ac kp ik td ch sp ou : Nat)  : CtI l yX6_clearText cX6_clearText 2 .int 0 0 [.ref mo] [[(mo, .inr (5, [.int (nI rf), .ref tx, .int (nI sz), .ref nw, .ref tr, .ref dy, .int (nI ac), .ref kp, .ref ik, .ref td, .ref ch, .int (nI sp), .int (nI ou)]))]] (fun r sg => r = nI sz ∧ sg = [[(mo, .inr (5, [.int (nI 0), .ref tx, .int (nI 0), .ref nw, .ref tr, .ref dy, .int (nI ac), .ref kp, .ref ik, .ref td, .ref ch, .int (nI sp), .int (nI ou)]))]]) G Y := by
  refine x_ofI (by decide) (Nat.le_of_ble_eq_true rfl) (fun p e s m args below meth c A ls Q M hK hZ hw hl hret => ?_)
  obtain ⟨hx, hb, -⟩ := id M
  have hl : lv_has ls 2 [(0, .ref mo)] := hl
  refine lv_aload_n hx hb dX6_clearText_0 rfl (lv_at hl 0 rfl) ?_
  refine lv_iconst (v := (nI 0)) hx hb dX6_clearText_1 (by decide) ?_
  refine x_put M hK hw 0 0 rfl rfl fp_X6_39 rfl rfl (Nat.le_of_ble_eq_true rfl) dX6_clearText_2 (fun H locs hw => ?_)
  have hw : xW G A s.heap [[(mo, .inr (5, [.int (nI 0), .ref tx, .int (nI sz), .ref nw, .ref tr, .ref dy, .int (nI ac), .ref kp, .ref ik, .ref td, .ref ch, .int (nI sp), .int (nI ou)]))]] H locs := hw
  refine lv_aload_n hx hb dX6_clearText_5 rfl (lv_at hl 0 rfl) ?_
  refine x_get M hK hw 0 0 rfl rfl ff_X6_100 rfl dX6_clearText_6 ?_
  refine lv_istore_n (lv' := [(1, .int (nI sz)), (0, .ref mo)]) hx hb dX6_clearText_9 rfl hl (by decide) rfl (fun ls hl => ?_)
  refine lv_aload_n hx hb dX6_clearText_10 rfl (lv_at hl 1 rfl) ?_
  refine lv_iconst (v := (nI 0)) hx hb dX6_clearText_11 (by decide) ?_
  refine x_put M hK hw 0 0 rfl rfl fp_X6_100 rfl rfl (Nat.le_of_ble_eq_true rfl) dX6_clearText_12 (fun H locs hw => ?_)
  have hw : xW G A s.heap [[(mo, .inr (5, [.int (nI 0), .ref tx, .int (nI 0), .ref nw, .ref tr, .ref dy, .int (nI ac), .ref kp, .ref ik, .ref td, .ref ch, .int (nI sp), .int (nI ou)]))]] H locs := hw
  refine lv_iload_n hx hb dX6_clearText_15 rfl (lv_at hl 0 rfl) ?_
  exact hret _ _ _ (nI sz) _ _ dX6_clearText_16 hw rfl rfl ⟨rfl, rfl⟩
set_option maxHeartbeats 4000000 in
set_option maxRecDepth 20000 in
theorem k_X6_errorPosition (l : Launch) (G : va_G) (Y : Nat → Nat) (mo rf tx sz nw tr dy ac kp ik td ch sp ou : Nat) (lt : Nat → Nat) (φ : Nat → Nat) (hn : sz ≤ 120) (hlt : ∀ i, i < 120 → lt i < 256) : CtI l yX6_errorPosition cX6_errorPosition 1 .int 7 158 [.ref mo] [[(mo, .inr (5, [.int (nI rf), .ref tx, .int (nI sz), .ref nw, .ref tr, .ref dy, .int (nI ac), .ref kp, .ref ik, .ref td, .ref ch, .int (nI sp), .int (nI ou)]))], [(tx, .inl (Y 0, 120, .inl (rowF lt)))], [(tr, .inl (Y 0, 140, .inl (rowF φ)))]] (fun r sg => r = mw (errP lt sz) ∧ ∃ (sp' : Nat) (ou' : Nat) (σ : Nat → Nat), sg = [[(mo, .inr (5, [.int (nI 0), .ref tx, .int (nI sz), .ref nw, .ref tr, .ref dy, .int (nI ac), .ref kp, .ref ik, .ref td, .ref ch, .int (nI sp'), .int (nI ou')]))], [(tx, .inl (Y 0, 120, .inl (rowF lt)))], [(tr, .inl (Y 0, 140, .inl (rowF σ)))]]) G Y := by
  refine x_ofI (by decide) (Nat.le_of_ble_eq_true rfl) (fun p e s m args below meth c A ls Q M hK hZ hw hl hret => ?_)
  obtain ⟨hx, hb, -⟩ := id M
  have hl : lv_has ls 1 [(0, .ref mo)] := hl
  refine lv_aload_n hx hb dX6_errorPosition_0 rfl (lv_at hl 0 rfl) ?_
  refine lv_iconst (v := (nI 0)) hx hb dX6_errorPosition_1 (by decide) ?_
  refine x_put M hK hw 0 0 rfl rfl fp_X6_39 rfl rfl (Nat.le_of_ble_eq_true rfl) dX6_errorPosition_2 (fun H locs hw => ?_)
  have hw : xW G A s.heap [[(mo, .inr (5, [.int (nI 0), .ref tx, .int (nI sz), .ref nw, .ref tr, .ref dy, .int (nI ac), .ref kp, .ref ik, .ref td, .ref ch, .int (nI sp), .int (nI ou)]))], [(tx, .inl (Y 0, 120, .inl (rowF lt)))], [(tr, .inl (Y 0, 140, .inl (rowF φ)))]] H locs := hw
  refine lv_aload_n hx hb dX6_errorPosition_5 rfl (lv_at hl 0 rfl) ?_
  refine lv_aload_n hx hb dX6_errorPosition_6 rfl (lv_at hl 0 rfl) ?_
  refine x_get M hK hw 0 0 rfl rfl ff_X6_16 rfl dX6_errorPosition_7 ?_
  refine x_cVI (As := [.ref tr]) (k_X6_readText l G Y mo 0 tx sz nw tr dy ac kp ik td ch sp ou lt tr φ (by omega) (by omega)) cw_X6_151 [0, 1, 2] 0 0 M hK hZ hw hl.1 rfl (by decide) rfl rfl rfl ⟨by decide, by decide⟩ ⟨Nat.zero_le _, Nat.zero_le _⟩ rfl rfl (Nat.le_of_ble_eq_true rfl) dX6_errorPosition_10 (fun r sg h_1 H locs hw => ?_)
  obtain ⟨rfl, spa2, oua3, σa4, hea5, rfl⟩ := h_1
  have hw : xW G A s.heap [[(mo, .inr (5, [.int (nI 0), .ref tx, .int (nI sz), .ref nw, .ref tr, .ref dy, .int (nI ac), .ref kp, .ref ik, .ref td, .ref ch, .int (nI spa2), .int (nI oua3)]))], [(tx, .inl (Y 0, 120, .inl (rowF lt)))], [(tr, .inl (Y 0, 140, .inl (rowF σa4)))]] H locs := hw
  exact hret _ _ _ (mw (errP lt sz)) _ _ dX6_errorPosition_13 hw rfl rfl ⟨rfl, _, _, _, rfl⟩
set_option maxHeartbeats 4000000 in
set_option maxRecDepth 20000 in
theorem k_X6_load (l : Launch) (G : va_G) (Y : Nat → Nat) (mo rf tx sz nw tr dy ac kp ik td ch sp ou : Nat) (lt : Nat → Nat) (ρ φ : Nat → Nat) (fl : Nat → Int32) (hn : sz ≤ 120) (hlt : ∀ i, i < 120 → lt i < 256) (he : errP lt sz = 0) : CtI l yX6_load cX6_load 1 .int 7 158 [.ref mo] [[(mo, .inr (5, [.int (nI rf), .ref tx, .int (nI sz), .ref nw, .ref tr, .ref dy, .int (nI ac), .ref kp, .ref ik, .ref td, .ref ch, .int (nI sp), .int (nI ou)]))], [(tx, .inl (Y 0, 120, .inl (rowF lt)))], [(nw, .inl (Y 0, 140, .inl (rowF ρ)))], [(tr, .inl (Y 0, 140, .inl (rowF φ)))], [(ik, .inl (Y 1, 2, .inl fl))]] (fun r sg => r = nI ((tR lt sz 1 row0 0).2) ∧ ∃ (sp' : Nat), sg = [[(mo, .inr (5, [.int (nI 0), .ref tx, .int (nI sz), .ref nw, .ref tr, .ref dy, .int (nI 0), .ref kp, .ref ik, .ref td, .ref ch, .int (nI sp'), .int (nI ((tR lt sz 1 row0 0).2))]))], [(tx, .inl (Y 0, 120, .inl (rowF lt)))], [(nw, .inl (Y 0, 140, .inl (rowF ((tR lt sz 1 row0 0).1))))], [(tr, .inl (Y 0, 140, .inl (rowF ((tR lt sz 1 row0 0).1))))], [(ik, .inl (Y 1, 2, .inl (upd (upd fl 0 (nI 0)) 1 (nI 0))))]]) G Y := by
  refine x_ofI (by decide) (Nat.le_of_ble_eq_true rfl) (fun p e s m args below meth c A ls Q M hK hZ hw hl hret => ?_)
  obtain ⟨hx, hb, -⟩ := id M
  have hl : lv_has ls 1 [(0, .ref mo)] := hl
  refine lv_aload_n hx hb dX6_load_0 rfl (lv_at hl 0 rfl) ?_
  refine lv_aload_n hx hb dX6_load_1 rfl (lv_at hl 0 rfl) ?_
  refine lv_aload_n hx hb dX6_load_2 rfl (lv_at hl 0 rfl) ?_
  refine x_get M hK hw 0 0 rfl rfl ff_X6_16 rfl dX6_load_3 ?_
  refine x_cVI (As := [.ref tr]) (k_X6_readText l G Y mo rf tx sz nw tr dy ac kp ik td ch sp ou lt tr φ (by omega) (by omega)) cw_X6_151 [0, 1, 3] 0 0 M hK hZ hw hl.1 rfl (by decide) rfl rfl rfl ⟨by decide, by decide⟩ ⟨Nat.zero_le _, Nat.zero_le _⟩ rfl rfl (Nat.le_of_ble_eq_true rfl) dX6_load_6 (fun r sg h_1 H locs hw => ?_)
  obtain ⟨rfl, spa2, oua3, σa4, hea5, rfl⟩ := h_1
  have hw : xW G A s.heap [[(mo, .inr (5, [.int (nI rf), .ref tx, .int (nI sz), .ref nw, .ref tr, .ref dy, .int (nI ac), .ref kp, .ref ik, .ref td, .ref ch, .int (nI spa2), .int (nI oua3)]))], [(tx, .inl (Y 0, 120, .inl (rowF lt)))], [(nw, .inl (Y 0, 140, .inl (rowF ρ)))], [(tr, .inl (Y 0, 140, .inl (rowF σa4)))], [(ik, .inl (Y 1, 2, .inl fl))]] H locs := hw
  obtain ⟨hσ, hou⟩ := hea5 he
  subst hσ hou
  have hw : xW G A s.heap [[(mo, .inr (5, [.int (nI rf), .ref tx, .int (nI sz), .ref nw, .ref tr, .ref dy, .int (nI ac), .ref kp, .ref ik, .ref td, .ref ch, .int (nI spa2), .int (nI ((tR lt sz 1 row0 0).2))]))], [(tx, .inl (Y 0, 120, .inl (rowF lt)))], [(nw, .inl (Y 0, 140, .inl (rowF ρ)))], [(tr, .inl (Y 0, 140, .inl (rowF ((tR lt sz 1 row0 0).1))))], [(ik, .inl (Y 1, 2, .inl fl))]] H locs := hw
  refine lv_iconst (v := (mw 0)) hx hb dX6_load_9 (by decide) ?_
  refine lv_icmp_ne (tgt := 17) hx hb dX6_load_10 (by decide) (fun c_6 => absurd c_6 (fun z => z (by rw [he]))) (fun c_6 => ?_)
  refine lv_iconst (v := (nI 0)) hx hb dX6_load_13 (by decide) ?_
  refine lv_goto (tgt := 18) hx hb dX6_load_14 (by decide) ?_
  refine x_cVI (As := [.int (nI 0)]) (k_X6_refused l G Y mo rf tx sz nw tr dy ac kp ik td ch spa2 ((tR lt sz 1 row0 0).2) 0 (by omega)) cw_X6_103 [0] 0 0 M hK hZ hw hl.1 rfl (by decide) rfl rfl rfl ⟨by decide, by decide⟩ ⟨Nat.zero_le _, Nat.zero_le _⟩ rfl rfl (Nat.le_of_ble_eq_true rfl) dX6_load_18 (fun r sg h_7 H locs hw => ?_)
  obtain ⟨rfl, rfl⟩ := h_7
  have hw : xW G A s.heap [[(mo, .inr (5, [.int (nI 0), .ref tx, .int (nI sz), .ref nw, .ref tr, .ref dy, .int (nI ac), .ref kp, .ref ik, .ref td, .ref ch, .int (nI spa2), .int (nI ((tR lt sz 1 row0 0).2))]))], [(tx, .inl (Y 0, 120, .inl (rowF lt)))], [(nw, .inl (Y 0, 140, .inl (rowF ρ)))], [(tr, .inl (Y 0, 140, .inl (rowF ((tR lt sz 1 row0 0).1))))], [(ik, .inl (Y 1, 2, .inl fl))]] H locs := hw
  refine x_beq M (tgt := 26) dX6_load_21 (by decide) (fun c_8 => ?_) (fun c_8 => absurd c_8 (fun z => by first | exact absurd z (by decide) | (have := of_decide_eq_true z; omega) | (have := of_decide_eq_false z; omega)))
  refine lv_aload_n hx hb dX6_load_26 rfl (lv_at hl 0 rfl) ?_
  refine x_get M hK hw 0 0 rfl rfl ff_X6_16 rfl dX6_load_27 ?_
  refine lv_iconst (v := (nI 0)) hx hb dX6_load_30 (by decide) ?_
  refine lv_aload_n hx hb dX6_load_31 rfl (lv_at hl 0 rfl) ?_
  refine x_get M hK hw 0 0 rfl rfl ff_X6_13 rfl dX6_load_32 ?_
  refine lv_iconst (v := (nI 0)) hx hb dX6_load_35 (by decide) ?_
  refine x_cSV (As := [.ref tr, .int (nI 0), .ref nw, .int (nI 0)]) (k_X6_copyState l G Y tr nw 140 140 0 0 ((tR lt sz 1 row0 0).1) ρ (by omega) (by omega) (by omega) (by omega)) cw_X6_154 [3, 2] M hK hZ hw hl.1 rfl (by decide) ⟨by decide, by decide⟩ ⟨Nat.zero_le _, Nat.zero_le _⟩ rfl rfl (Nat.le_of_ble_eq_true rfl) dX6_load_36 (fun sg h_9 H locs hw => ?_)
  obtain rfl := h_9
  have hw : xW G A s.heap [[(mo, .inr (5, [.int (nI 0), .ref tx, .int (nI sz), .ref nw, .ref tr, .ref dy, .int (nI ac), .ref kp, .ref ik, .ref td, .ref ch, .int (nI spa2), .int (nI ((tR lt sz 1 row0 0).2))]))], [(tx, .inl (Y 0, 120, .inl (rowF lt)))], [(nw, .inl (Y 0, 140, .inl (rowF (cpS ((tR lt sz 1 row0 0).1) ρ 0 0 140))))], [(tr, .inl (Y 0, 140, .inl (rowF ((tR lt sz 1 row0 0).1))))], [(ik, .inl (Y 1, 2, .inl fl))]] H locs := hw
  have hw := row_fold (i := 2) (f' := rowF ((tR lt sz 1 row0 0).1)) hw rfl (fun q hq => congrArg nI (by clear hret hw hl M hK hZ hx hb; have h9 := cpS_in (f := (tR lt sz 1 row0 0).1) (g := ρ) (fa := 0) (ta := 0) (k := q) (m := 140) hq; simp only [Nat.zero_add] at h9; exact h9.symm))
  have hw : xW G A s.heap [[(mo, .inr (5, [.int (nI 0), .ref tx, .int (nI sz), .ref nw, .ref tr, .ref dy, .int (nI ac), .ref kp, .ref ik, .ref td, .ref ch, .int (nI spa2), .int (nI ((tR lt sz 1 row0 0).2))]))], [(tx, .inl (Y 0, 120, .inl (rowF lt)))], [(nw, .inl (Y 0, 140, .inl (rowF ((tR lt sz 1 row0 0).1))))], [(tr, .inl (Y 0, 140, .inl (rowF ((tR lt sz 1 row0 0).1))))], [(ik, .inl (Y 1, 2, .inl fl))]] H locs := hw
  refine lv_aload_n hx hb dX6_load_39 rfl (lv_at hl 0 rfl) ?_
  refine lv_iconst (v := (nI 0)) hx hb dX6_load_40 (by decide) ?_
  refine x_put M hK hw 0 0 rfl rfl fp_X6_158 rfl rfl (Nat.le_of_ble_eq_true rfl) dX6_load_41 (fun H locs hw => ?_)
  have hw : xW G A s.heap [[(mo, .inr (5, [.int (nI 0), .ref tx, .int (nI sz), .ref nw, .ref tr, .ref dy, .int (nI 0), .ref kp, .ref ik, .ref td, .ref ch, .int (nI spa2), .int (nI ((tR lt sz 1 row0 0).2))]))], [(tx, .inl (Y 0, 120, .inl (rowF lt)))], [(nw, .inl (Y 0, 140, .inl (rowF ((tR lt sz 1 row0 0).1))))], [(tr, .inl (Y 0, 140, .inl (rowF ((tR lt sz 1 row0 0).1))))], [(ik, .inl (Y 1, 2, .inl fl))]] H locs := hw
  refine lv_aload_n hx hb dX6_load_44 rfl (lv_at hl 0 rfl) ?_
  refine x_get M hK hw 0 0 rfl rfl ff_X6_25 rfl dX6_load_45 ?_
  refine lv_iconst (v := (nI 0)) hx hb dX6_load_48 (by decide) ?_
  refine lv_iconst (v := (nI 0)) hx hb dX6_load_49 (by decide) ?_
  refine x_zast M hK hw 4 0 rfl rfl (by decide) (by decide) (by decide) dX6_load_50 (fun H locs hw => ?_)
  have hw : xW G A s.heap [[(mo, .inr (5, [.int (nI 0), .ref tx, .int (nI sz), .ref nw, .ref tr, .ref dy, .int (nI 0), .ref kp, .ref ik, .ref td, .ref ch, .int (nI spa2), .int (nI ((tR lt sz 1 row0 0).2))]))], [(tx, .inl (Y 0, 120, .inl (rowF lt)))], [(nw, .inl (Y 0, 140, .inl (rowF ((tR lt sz 1 row0 0).1))))], [(tr, .inl (Y 0, 140, .inl (rowF ((tR lt sz 1 row0 0).1))))], [(ik, .inl (Y 1, 2, .inl (upd fl 0 (nI 0))))]] H locs := hw
  refine lv_aload_n hx hb dX6_load_51 rfl (lv_at hl 0 rfl) ?_
  refine x_get M hK hw 0 0 rfl rfl ff_X6_25 rfl dX6_load_52 ?_
  refine lv_iconst (v := (nI 1)) hx hb dX6_load_55 (by decide) ?_
  refine lv_iconst (v := (nI 0)) hx hb dX6_load_56 (by decide) ?_
  refine x_zast M hK hw 4 0 rfl rfl (by decide) (by decide) (by decide) dX6_load_57 (fun H locs hw => ?_)
  have hw : xW G A s.heap [[(mo, .inr (5, [.int (nI 0), .ref tx, .int (nI sz), .ref nw, .ref tr, .ref dy, .int (nI 0), .ref kp, .ref ik, .ref td, .ref ch, .int (nI spa2), .int (nI ((tR lt sz 1 row0 0).2))]))], [(tx, .inl (Y 0, 120, .inl (rowF lt)))], [(nw, .inl (Y 0, 140, .inl (rowF ((tR lt sz 1 row0 0).1))))], [(tr, .inl (Y 0, 140, .inl (rowF ((tR lt sz 1 row0 0).1))))], [(ik, .inl (Y 1, 2, .inl (upd (upd fl 0 (nI 0)) 1 (nI 0))))]] H locs := hw
  refine lv_aload_n hx hb dX6_load_58 rfl (lv_at hl 0 rfl) ?_
  refine x_get M hK hw 0 0 rfl rfl ff_X6_140 rfl dX6_load_59 ?_
  exact hret _ _ _ (nI ((tR lt sz 1 row0 0).2)) _ _ dX6_load_62 hw rfl rfl ⟨rfl, _, rfl⟩
set_option maxHeartbeats 4000000 in
set_option maxRecDepth 20000 in
theorem f_X6_load (l : Launch) (G : va_G) (Y : Nat → Nat) (mo rf tx sz nw tr dy ac kp ik td ch sp ou : Nat) (lt : Nat → Nat) (ρ φ : Nat → Nat) (fl : Nat → Int32) (hn : sz ≤ 120) (hlt : ∀ i, i < 120 → lt i < 256) (he : errP lt sz ≠ 0) : CtI l yX6_load cX6_load 1 .int 7 158 [.ref mo] [[(mo, .inr (5, [.int (nI rf), .ref tx, .int (nI sz), .ref nw, .ref tr, .ref dy, .int (nI ac), .ref kp, .ref ik, .ref td, .ref ch, .int (nI sp), .int (nI ou)]))], [(tx, .inl (Y 0, 120, .inl (rowF lt)))], [(nw, .inl (Y 0, 140, .inl (rowF ρ)))], [(tr, .inl (Y 0, 140, .inl (rowF φ)))], [(ik, .inl (Y 1, 2, .inl fl))]] (fun r sg => r = nI 0 ∧ ∃ (sp' : Nat) (ou' : Nat) (σ : Nat → Nat), sg = [[(mo, .inr (5, [.int (nI 1), .ref tx, .int (nI sz), .ref nw, .ref tr, .ref dy, .int (nI ac), .ref kp, .ref ik, .ref td, .ref ch, .int (nI sp'), .int (nI ou')]))], [(tx, .inl (Y 0, 120, .inl (rowF lt)))], [(nw, .inl (Y 0, 140, .inl (rowF ρ)))], [(tr, .inl (Y 0, 140, .inl (rowF σ)))], [(ik, .inl (Y 1, 2, .inl fl))]]) G Y := by
  refine x_ofI (by decide) (Nat.le_of_ble_eq_true rfl) (fun p e s m args below meth c A ls Q M hK hZ hw hl hret => ?_)
  obtain ⟨hx, hb, -⟩ := id M
  have hl : lv_has ls 1 [(0, .ref mo)] := hl
  refine lv_aload_n hx hb dX6_load_0 rfl (lv_at hl 0 rfl) ?_
  refine lv_aload_n hx hb dX6_load_1 rfl (lv_at hl 0 rfl) ?_
  refine lv_aload_n hx hb dX6_load_2 rfl (lv_at hl 0 rfl) ?_
  refine x_get M hK hw 0 0 rfl rfl ff_X6_16 rfl dX6_load_3 ?_
  refine x_cVI (As := [.ref tr]) (k_X6_readText l G Y mo rf tx sz nw tr dy ac kp ik td ch sp ou lt tr φ (by omega) (by omega)) cw_X6_151 [0, 1, 3] 0 0 M hK hZ hw hl.1 rfl (by decide) rfl rfl rfl ⟨by decide, by decide⟩ ⟨Nat.zero_le _, Nat.zero_le _⟩ rfl rfl (Nat.le_of_ble_eq_true rfl) dX6_load_6 (fun r sg h_1 H locs hw => ?_)
  obtain ⟨rfl, spa2, oua3, σa4, hea5, rfl⟩ := h_1
  have hw : xW G A s.heap [[(mo, .inr (5, [.int (nI rf), .ref tx, .int (nI sz), .ref nw, .ref tr, .ref dy, .int (nI ac), .ref kp, .ref ik, .ref td, .ref ch, .int (nI spa2), .int (nI oua3)]))], [(tx, .inl (Y 0, 120, .inl (rowF lt)))], [(nw, .inl (Y 0, 140, .inl (rowF ρ)))], [(tr, .inl (Y 0, 140, .inl (rowF σa4)))], [(ik, .inl (Y 1, 2, .inl fl))]] H locs := hw
  refine lv_iconst (v := (mw 0)) hx hb dX6_load_9 (by decide) ?_
  refine lv_icmp_ne (tgt := 17) hx hb dX6_load_10 (by decide) (fun c_6 => ?_) (fun c_6 => absurd c_6 (fun z => he (mw_inj (Nat.lt_of_le_of_lt (errP_le hn) (by decide)) (by decide) z)))
  refine lv_iconst (v := (nI 1)) hx hb dX6_load_17 (by decide) ?_
  refine x_cVI (As := [.int (nI 1)]) (k_X6_refused l G Y mo rf tx sz nw tr dy ac kp ik td ch spa2 oua3 1 (by omega)) cw_X6_103 [0] 0 0 M hK hZ hw hl.1 rfl (by decide) rfl rfl rfl ⟨by decide, by decide⟩ ⟨Nat.zero_le _, Nat.zero_le _⟩ rfl rfl (Nat.le_of_ble_eq_true rfl) dX6_load_18 (fun r sg h_7 H locs hw => ?_)
  obtain ⟨rfl, rfl⟩ := h_7
  have hw : xW G A s.heap [[(mo, .inr (5, [.int (nI 1), .ref tx, .int (nI sz), .ref nw, .ref tr, .ref dy, .int (nI ac), .ref kp, .ref ik, .ref td, .ref ch, .int (nI spa2), .int (nI oua3)]))], [(tx, .inl (Y 0, 120, .inl (rowF lt)))], [(nw, .inl (Y 0, 140, .inl (rowF ρ)))], [(tr, .inl (Y 0, 140, .inl (rowF σa4)))], [(ik, .inl (Y 1, 2, .inl fl))]] H locs := hw
  refine x_beq M (tgt := 26) dX6_load_21 (by decide) (fun c_8 => absurd c_8 (fun z => by first | exact absurd z (by decide) | (have := of_decide_eq_true z; omega) | (have := of_decide_eq_false z; omega))) (fun c_8 => ?_)
  refine lv_iconst (v := (nI 0)) hx hb dX6_load_24 (by decide) ?_
  exact hret _ _ _ (nI 0) _ _ dX6_load_25 hw rfl rfl ⟨rfl, _, _, _, rfl⟩
