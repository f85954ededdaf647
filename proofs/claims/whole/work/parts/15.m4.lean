set_option maxHeartbeats 4000000 in
set_option maxRecDepth 20000 in
theorem k_X6_whyNotJoin (l : Launch) (G : va_G) (Y : Nat → Nat) (a : Nat) (ρ : Nat → Nat) (u v : Int32) (hI : Inv ρ) : CtI l yX6_whyNotJoin cX6_whyNotJoin 3 .int 1 25 [.ref a, .int u, .int v] [[(a, .inl (Y 0, 140, .inl (rowF ρ)))]] (fun r sg => r = nI (whyJoin ρ u.toInt v.toInt - 1) ∧ sg = [[(a, .inl (Y 0, 140, .inl (rowF ρ)))]]) G Y := by
  refine x_ofI (by decide) (Nat.le_of_ble_eq_true rfl) (fun p e s m args below meth c A ls Q M hK hZ hw hl hret => ?_)
  obtain ⟨hx, hb, -⟩ := id M
  have hl : lv_has ls 3 [(0, .ref a), (1, .int u), (2, .int v)] := hl
  have := hI.n6
  have := hI.over
  have := hI.keep
  have := hI.stepp
  refine lv_iload_n hx hb dX6_whyNotJoin_0 rfl (lv_at hl 1 rfl) ?_
  refine lv_i2l (v := u.toInt64) hx hb dX6_whyNotJoin_1 rfl ?_
  refine lv_lconst (v := 0) hx hb dX6_whyNotJoin_2 (by decide) ?_
  refine lv_ldc2 (v := 99) hx hb M.2.2.2.1 (M.2.2.2.2 _ mw_1085) dX6_whyNotJoin_3 ?_
  refine x_cSI (As := [.long u.toInt64, .long 0, .long 99]) (k_X6_in l G Y u.toInt64 0 99) cw_X6_45 [] M hK hZ hw hl.1 rfl (by decide) ⟨by decide, by decide⟩ ⟨Nat.zero_le _, Nat.zero_le _⟩ rfl rfl (Nat.le_of_ble_eq_true rfl) dX6_whyNotJoin_6 (fun r sg h_1 H locs hw => ?_)
  obtain ⟨rfl, rfl⟩ := h_1
  have hw : xW G A s.heap [[(a, .inl (Y 0, 140, .inl (rowF ρ)))]] H locs := hw
  refine x_topI (y := b2i (inZ u.toInt 0 99)) (by rw [Int32.toInt_toInt64]; rfl) ?_
  refine x_beq M (tgt := 24) dX6_whyNotJoin_9 (by decide) (fun c_2 => ?_) (fun c_2 => ?_)
  · refine lv_iconst (v := (nI 1)) hx hb dX6_whyNotJoin_24 (by decide) ?_
    refine lv_goto (tgt := 47) hx hb dX6_whyNotJoin_25 (by decide) ?_
    exact hret _ _ _ (nI 1) _ _ dX6_whyNotJoin_47 hw rfl rfl ⟨congrArg nI (by clear hret hw hl M hK hZ hx hb; unfold whyJoin; (first | rw [if_pos c_2] | rw [if_neg (Bool.eq_false_iff.mp c_2)] | rw [if_neg (nIn c_2)] | rw [if_pos (nOut c_2)] | rw [if_neg (by omega)] | rw [if_pos (by omega)])), rfl⟩
  refine lv_iload_n hx hb dX6_whyNotJoin_12 rfl (lv_at hl 2 rfl) ?_
  refine lv_i2l (v := v.toInt64) hx hb dX6_whyNotJoin_13 rfl ?_
  refine lv_lconst (v := 1) hx hb dX6_whyNotJoin_14 (by decide) ?_
  refine lv_ldc2 (v := 9) hx hb M.2.2.2.1 (M.2.2.2.2 _ mw_1086) dX6_whyNotJoin_15 ?_
  refine x_cSI (As := [.long v.toInt64, .long 1, .long 9]) (k_X6_in l G Y v.toInt64 1 9) cw_X6_45 [] M hK hZ hw hl.1 rfl (by decide) ⟨by decide, by decide⟩ ⟨Nat.zero_le _, Nat.zero_le _⟩ rfl rfl (Nat.le_of_ble_eq_true rfl) dX6_whyNotJoin_18 (fun r sg h_3 H locs hw => ?_)
  obtain ⟨rfl, rfl⟩ := h_3
  have hw : xW G A s.heap [[(a, .inl (Y 0, 140, .inl (rowF ρ)))]] H locs := hw
  refine x_topI (y := b2i (inZ v.toInt 1 9)) (by rw [Int32.toInt_toInt64]; rfl) ?_
  refine x_bne M (tgt := 28) dX6_whyNotJoin_21 (by decide) (fun c_4 => ?_) (fun c_4 => ?_)
  · refine lv_aload_n hx hb dX6_whyNotJoin_28 rfl (lv_at hl 0 rfl) ?_
    refine lv_iconst (v := (nI 4)) hx hb dX6_whyNotJoin_29 (by decide) ?_
    refine x_iald M hK hw 0 0 rfl rfl (by decide) (by decide) dX6_whyNotJoin_30 ?_
    refine x_topN (n := ρ 4) rfl ?_
    have q_5 : ρ 4 ≤ 6 := hI.n6
    refine lv_bipush (v := (nI 6)) hx hb dX6_whyNotJoin_31 (by decide) ?_
    refine x_ceq M (tgt := 42) (by omega) (by decide) dX6_whyNotJoin_33 (by decide) (fun c_6 => ?_) (fun c_6 => ?_)
    · refine lv_iconst (v := (nI 2)) hx hb dX6_whyNotJoin_42 (by decide) ?_
      refine lv_goto (tgt := 47) hx hb dX6_whyNotJoin_43 (by decide) ?_
      exact hret _ _ _ (nI 2) _ _ dX6_whyNotJoin_47 hw rfl rfl ⟨congrArg nI (by clear hret hw hl M hK hZ hx hb; unfold whyJoin; (first | rw [if_pos c_2] | rw [if_neg (Bool.eq_false_iff.mp c_2)] | rw [if_neg (nIn c_2)] | rw [if_pos (nOut c_2)] | rw [if_neg (by omega)] | rw [if_pos (by omega)]) <;> (first | rw [if_pos c_4] | rw [if_neg (Bool.eq_false_iff.mp c_4)] | rw [if_neg (nIn c_4)] | rw [if_pos (nOut c_4)] | rw [if_neg (by omega)] | rw [if_pos (by omega)]) <;> (first | rw [if_pos c_6] | rw [if_neg (Bool.eq_false_iff.mp c_6)] | rw [if_neg (nIn c_6)] | rw [if_pos (nOut c_6)] | rw [if_neg (by omega)] | rw [if_pos (by omega)])), rfl⟩
    refine lv_aload_n hx hb dX6_whyNotJoin_36 rfl (lv_at hl 0 rfl) ?_
    refine lv_iconst (v := (nI 0)) hx hb dX6_whyNotJoin_37 (by decide) ?_
    refine x_iald M hK hw 0 0 rfl rfl (by decide) (by decide) dX6_whyNotJoin_38 ?_
    refine x_topN (n := ρ 0) rfl ?_
    refine lv_if_le (tgt := 46) hx hb dX6_whyNotJoin_39 (by decide) (fun c_7 => ?_) (fun c_7 => ?_)
    · have c_7 := startI_le c_7
      refine lv_iconst (v := (nI 0)) hx hb dX6_whyNotJoin_46 (by decide) ?_
      exact hret _ _ _ (nI 0) _ _ dX6_whyNotJoin_47 hw rfl rfl ⟨congrArg nI (by clear hret hw hl M hK hZ hx hb; unfold whyJoin; (first | rw [if_pos c_2] | rw [if_neg (Bool.eq_false_iff.mp c_2)] | rw [if_neg (nIn c_2)] | rw [if_pos (nOut c_2)] | rw [if_neg (by omega)] | rw [if_pos (by omega)]) <;> (first | rw [if_pos c_4] | rw [if_neg (Bool.eq_false_iff.mp c_4)] | rw [if_neg (nIn c_4)] | rw [if_pos (nOut c_4)] | rw [if_neg (by omega)] | rw [if_pos (by omega)]) <;> (first | rw [if_pos c_6] | rw [if_neg (Bool.eq_false_iff.mp c_6)] | rw [if_neg (nIn c_6)] | rw [if_pos (nOut c_6)] | rw [if_neg (by omega)] | rw [if_pos (by omega)]) <;> (first | rw [if_pos c_7] | rw [if_neg (Bool.eq_false_iff.mp c_7)] | rw [if_neg (nIn c_7)] | rw [if_pos (nOut c_7)] | rw [if_neg (by omega)] | rw [if_pos (by omega)])), rfl⟩
    have c_7 := startN_le c_7
    refine lv_iconst (v := (nI 2)) hx hb dX6_whyNotJoin_42 (by decide) ?_
    refine lv_goto (tgt := 47) hx hb dX6_whyNotJoin_43 (by decide) ?_
    exact hret _ _ _ (nI 2) _ _ dX6_whyNotJoin_47 hw rfl rfl ⟨congrArg nI (by clear hret hw hl M hK hZ hx hb; unfold whyJoin; (first | rw [if_pos c_2] | rw [if_neg (Bool.eq_false_iff.mp c_2)] | rw [if_neg (nIn c_2)] | rw [if_pos (nOut c_2)] | rw [if_neg (by omega)] | rw [if_pos (by omega)]) <;> (first | rw [if_pos c_4] | rw [if_neg (Bool.eq_false_iff.mp c_4)] | rw [if_neg (nIn c_4)] | rw [if_pos (nOut c_4)] | rw [if_neg (by omega)] | rw [if_pos (by omega)]) <;> (first | rw [if_pos c_6] | rw [if_neg (Bool.eq_false_iff.mp c_6)] | rw [if_neg (nIn c_6)] | rw [if_pos (nOut c_6)] | rw [if_neg (by omega)] | rw [if_pos (by omega)]) <;> (first | rw [if_pos c_7] | rw [if_neg (Bool.eq_false_iff.mp c_7)] | rw [if_neg (nIn c_7)] | rw [if_pos (nOut c_7)] | rw [if_neg (by omega)] | rw [if_pos (by omega)])), rfl⟩
  refine lv_iconst (v := (nI 1)) hx hb dX6_whyNotJoin_24 (by decide) ?_
  refine lv_goto (tgt := 47) hx hb dX6_whyNotJoin_25 (by decide) ?_
  exact hret _ _ _ (nI 1) _ _ dX6_whyNotJoin_47 hw rfl rfl ⟨congrArg nI (by clear hret hw hl M hK hZ hx hb; unfold whyJoin; (first | rw [if_pos c_2] | rw [if_neg (Bool.eq_false_iff.mp c_2)] | rw [if_neg (nIn c_2)] | rw [if_pos (nOut c_2)] | rw [if_neg (by omega)] | rw [if_pos (by omega)]) <;> (first | rw [if_pos c_4] | rw [if_neg (Bool.eq_false_iff.mp c_4)] | rw [if_neg (nIn c_4)] | rw [if_pos (nOut c_4)] | rw [if_neg (by omega)] | rw [if_pos (by omega)])), rfl⟩
set_option maxHeartbeats 4000000 in
set_option maxRecDepth 20000 in
theorem k_X6_whyNotValue (l : Launch) (G : va_G) (Y : Nat → Nat) (a : Nat) (ρ : Nat → Nat) (b k v : Int32) (hI : Inv ρ) : CtI l yX6_whyNotValue cX6_whyNotValue 4 .int 2 46 [.ref a, .int b, .int k, .int v] [[(a, .inl (Y 0, 140, .inl (rowF ρ)))]] (fun r sg => r = nI (whyValue ρ b.toInt k.toInt v.toInt) ∧ sg = [[(a, .inl (Y 0, 140, .inl (rowF ρ)))]]) G Y := by
  refine x_ofI (by decide) (Nat.le_of_ble_eq_true rfl) (fun p e s m args below meth c A ls Q M hK hZ hw hl hret => ?_)
  obtain ⟨hx, hb, -⟩ := id M
  have hl : lv_has ls 4 [(0, .ref a), (1, .int b), (2, .int k), (3, .int v)] := hl
  have := hI.n6
  have := hI.over
  have := hI.keep
  have := hI.stepp
  refine lv_aload_n hx hb dX6_whyNotValue_0 rfl (lv_at hl 0 rfl) ?_
  refine lv_iload_n hx hb dX6_whyNotValue_1 rfl (lv_at hl 1 rfl) ?_
  refine x_cSI (As := [.ref a, .int b]) (k_X6_isBidder l G Y a ρ b (hI)) cw_X6_79 [0] M hK hZ hw hl.1 rfl (by decide) ⟨by decide, by decide⟩ ⟨Nat.zero_le _, Nat.zero_le _⟩ rfl rfl (Nat.le_of_ble_eq_true rfl) dX6_whyNotValue_2 (fun r sg h_1 H locs hw => ?_)
  obtain ⟨rfl, rfl⟩ := h_1
  have hw : xW G A s.heap [[(a, .inl (Y 0, 140, .inl (rowF ρ)))]] H locs := hw
  refine x_beq M (tgt := 15) dX6_whyNotValue_5 (by decide) (fun c_2 => ?_) (fun c_2 => ?_)
  · refine lv_iconst (v := (nI 1)) hx hb dX6_whyNotValue_15 (by decide) ?_
    refine lv_goto (tgt := 36) hx hb dX6_whyNotValue_16 (by decide) ?_
    exact hret _ _ _ (nI 1) _ _ dX6_whyNotValue_36 hw rfl rfl ⟨congrArg nI (by clear hret hw hl M hK hZ hx hb; unfold whyValue; (first | rw [if_pos c_2] | rw [if_neg (Bool.eq_false_iff.mp c_2)] | rw [if_neg (nIn c_2)] | rw [if_pos (nOut c_2)] | rw [if_neg (by omega)] | rw [if_pos (by omega)])), rfl⟩
  refine lv_iload_n hx hb dX6_whyNotValue_8 rfl (lv_at hl 2 rfl) ?_
  refine x_cSI (As := [.int k]) (k_X6_isKind l G Y k) cw_X6_83 [] M hK hZ hw hl.1 rfl (by decide) ⟨by decide, by decide⟩ ⟨Nat.zero_le _, Nat.zero_le _⟩ rfl rfl (Nat.le_of_ble_eq_true rfl) dX6_whyNotValue_9 (fun r sg h_3 H locs hw => ?_)
  obtain ⟨rfl, rfl⟩ := h_3
  have hw : xW G A s.heap [[(a, .inl (Y 0, 140, .inl (rowF ρ)))]] H locs := hw
  refine x_bne M (tgt := 19) dX6_whyNotValue_12 (by decide) (fun c_4 => ?_) (fun c_4 => ?_)
  · refine lv_iload_n hx hb dX6_whyNotValue_19 rfl (lv_at hl 3 rfl) ?_
    refine lv_i2l (v := v.toInt64) hx hb dX6_whyNotValue_20 rfl ?_
    refine lv_lconst (v := 0) hx hb dX6_whyNotValue_21 (by decide) ?_
    refine lv_ldc2 (v := 99999) hx hb M.2.2.2.1 (M.2.2.2.2 _ mw_1103) dX6_whyNotValue_22 ?_
    refine x_cSI (As := [.long v.toInt64, .long 0, .long 99999]) (k_X6_in l G Y v.toInt64 0 99999) cw_X6_45 [] M hK hZ hw hl.1 rfl (by decide) ⟨by decide, by decide⟩ ⟨Nat.zero_le _, Nat.zero_le _⟩ rfl rfl (Nat.le_of_ble_eq_true rfl) dX6_whyNotValue_25 (fun r sg h_5 H locs hw => ?_)
    obtain ⟨rfl, rfl⟩ := h_5
    have hw : xW G A s.heap [[(a, .inl (Y 0, 140, .inl (rowF ρ)))]] H locs := hw
    refine x_topI (y := b2i (inZ v.toInt 0 99999)) (by rw [Int32.toInt_toInt64]; rfl) ?_
    refine x_beq M (tgt := 35) dX6_whyNotValue_28 (by decide) (fun c_6 => ?_) (fun c_6 => ?_)
    · refine lv_iconst (v := (nI 2)) hx hb dX6_whyNotValue_35 (by decide) ?_
      exact hret _ _ _ (nI 2) _ _ dX6_whyNotValue_36 hw rfl rfl ⟨congrArg nI (by clear hret hw hl M hK hZ hx hb; unfold whyValue; (first | rw [if_pos c_2] | rw [if_neg (Bool.eq_false_iff.mp c_2)] | rw [if_neg (nIn c_2)] | rw [if_pos (nOut c_2)] | rw [if_neg (by omega)] | rw [if_pos (by omega)]) <;> (first | rw [if_pos c_4] | rw [if_neg (Bool.eq_false_iff.mp c_4)] | rw [if_neg (nIn c_4)] | rw [if_pos (nOut c_4)] | rw [if_neg (by omega)] | rw [if_pos (by omega)]) <;> (first | rw [if_pos c_6] | rw [if_neg (Bool.eq_false_iff.mp c_6)] | rw [if_neg (nIn c_6)] | rw [if_pos (nOut c_6)] | rw [if_neg (by omega)] | rw [if_pos (by omega)])), rfl⟩
    refine lv_iconst (v := (nI 0)) hx hb dX6_whyNotValue_31 (by decide) ?_
    refine lv_goto (tgt := 36) hx hb dX6_whyNotValue_32 (by decide) ?_
    exact hret _ _ _ (nI 0) _ _ dX6_whyNotValue_36 hw rfl rfl ⟨congrArg nI (by clear hret hw hl M hK hZ hx hb; unfold whyValue; (first | rw [if_pos c_2] | rw [if_neg (Bool.eq_false_iff.mp c_2)] | rw [if_neg (nIn c_2)] | rw [if_pos (nOut c_2)] | rw [if_neg (by omega)] | rw [if_pos (by omega)]) <;> (first | rw [if_pos c_4] | rw [if_neg (Bool.eq_false_iff.mp c_4)] | rw [if_neg (nIn c_4)] | rw [if_pos (nOut c_4)] | rw [if_neg (by omega)] | rw [if_pos (by omega)]) <;> (first | rw [if_pos c_6] | rw [if_neg (Bool.eq_false_iff.mp c_6)] | rw [if_neg (nIn c_6)] | rw [if_pos (nOut c_6)] | rw [if_neg (by omega)] | rw [if_pos (by omega)])), rfl⟩
  refine lv_iconst (v := (nI 1)) hx hb dX6_whyNotValue_15 (by decide) ?_
  refine lv_goto (tgt := 36) hx hb dX6_whyNotValue_16 (by decide) ?_
  exact hret _ _ _ (nI 1) _ _ dX6_whyNotValue_36 hw rfl rfl ⟨congrArg nI (by clear hret hw hl M hK hZ hx hb; unfold whyValue; (first | rw [if_pos c_2] | rw [if_neg (Bool.eq_false_iff.mp c_2)] | rw [if_neg (nIn c_2)] | rw [if_pos (nOut c_2)] | rw [if_neg (by omega)] | rw [if_pos (by omega)]) <;> (first | rw [if_pos c_4] | rw [if_neg (Bool.eq_false_iff.mp c_4)] | rw [if_neg (nIn c_4)] | rw [if_pos (nOut c_4)] | rw [if_neg (by omega)] | rw [if_pos (by omega)])), rfl⟩
set_option maxHeartbeats 4000000 in
set_option maxRecDepth 20000 in
theorem k_X6_whyNotAsk (l : Launch) (G : va_G) (Y : Nat → Nat) (a : Nat) (ρ : Nat → Nat) (b k n : Int32) (hI : Inv ρ) : CtI l yX6_whyNotAsk cX6_whyNotAsk 5 .int 2 46 [.ref a, .int b, .int k, .int n] [[(a, .inl (Y 0, 140, .inl (rowF ρ)))]] (fun r sg => r = nI (whyAsk ρ b.toInt k.toInt n.toInt) ∧ sg = [[(a, .inl (Y 0, 140, .inl (rowF ρ)))]]) G Y := by
  refine x_ofI (by decide) (Nat.le_of_ble_eq_true rfl) (fun p e s m args below meth c A ls Q M hK hZ hw hl hret => ?_)
  obtain ⟨hx, hb, -⟩ := id M
  have hl : lv_has ls 5 [(0, .ref a), (1, .int b), (2, .int k), (3, .int n)] := hl
  have := hI.n6
  have := hI.over
  have := hI.keep
  have := hI.stepp
  refine lv_aload_n hx hb dX6_whyNotAsk_0 rfl (lv_at hl 0 rfl) ?_
  refine lv_iload_n hx hb dX6_whyNotAsk_1 rfl (lv_at hl 1 rfl) ?_
  refine x_cSI (As := [.ref a, .int b]) (k_X6_isBidder l G Y a ρ b (hI)) cw_X6_79 [0] M hK hZ hw hl.1 rfl (by decide) ⟨by decide, by decide⟩ ⟨Nat.zero_le _, Nat.zero_le _⟩ rfl rfl (Nat.le_of_ble_eq_true rfl) dX6_whyNotAsk_2 (fun r sg h_1 H locs hw => ?_)
  obtain ⟨rfl, rfl⟩ := h_1
  have hw : xW G A s.heap [[(a, .inl (Y 0, 140, .inl (rowF ρ)))]] H locs := hw
  refine x_beq M (tgt := 15) dX6_whyNotAsk_5 (by decide) (fun c_2 => ?_) (fun c_2 => ?_)
  · refine lv_iconst (v := (nI 1)) hx hb dX6_whyNotAsk_15 (by decide) ?_
    exact hret _ _ _ (nI 1) _ _ dX6_whyNotAsk_16 hw rfl rfl ⟨congrArg nI (by clear hret hw hl M hK hZ hx hb; unfold whyAsk; (first | rw [if_pos c_2] | rw [if_neg (Bool.eq_false_iff.mp c_2)] | rw [if_neg (nIn c_2)] | rw [if_pos (nOut c_2)] | rw [if_neg (by omega)] | rw [if_pos (by omega)])), rfl⟩
  refine lv_iload_n hx hb dX6_whyNotAsk_8 rfl (lv_at hl 2 rfl) ?_
  refine x_cSI (As := [.int k]) (k_X6_isKind l G Y k) cw_X6_83 [] M hK hZ hw hl.1 rfl (by decide) ⟨by decide, by decide⟩ ⟨Nat.zero_le _, Nat.zero_le _⟩ rfl rfl (Nat.le_of_ble_eq_true rfl) dX6_whyNotAsk_9 (fun r sg h_3 H locs hw => ?_)
  obtain ⟨rfl, rfl⟩ := h_3
  have hw : xW G A s.heap [[(a, .inl (Y 0, 140, .inl (rowF ρ)))]] H locs := hw
  refine x_bne M (tgt := 17) dX6_whyNotAsk_12 (by decide) (fun c_4 => ?_) (fun c_4 => ?_)
  · refine lv_iload_n hx hb dX6_whyNotAsk_17 rfl (lv_at hl 3 rfl) ?_
    refine lv_i2l (v := n.toInt64) hx hb dX6_whyNotAsk_18 rfl ?_
    refine lv_lconst (v := 0) hx hb dX6_whyNotAsk_19 (by decide) ?_
    refine lv_ldc2 (v := 9) hx hb M.2.2.2.1 (M.2.2.2.2 _ mw_1086) dX6_whyNotAsk_20 ?_
    refine x_cSI (As := [.long n.toInt64, .long 0, .long 9]) (k_X6_in l G Y n.toInt64 0 9) cw_X6_45 [] M hK hZ hw hl.1 rfl (by decide) ⟨by decide, by decide⟩ ⟨Nat.zero_le _, Nat.zero_le _⟩ rfl rfl (Nat.le_of_ble_eq_true rfl) dX6_whyNotAsk_23 (fun r sg h_5 H locs hw => ?_)
    obtain ⟨rfl, rfl⟩ := h_5
    have hw : xW G A s.heap [[(a, .inl (Y 0, 140, .inl (rowF ρ)))]] H locs := hw
    refine x_topI (y := b2i (inZ n.toInt 0 9)) (by rw [Int32.toInt_toInt64]; rfl) ?_
    refine x_bne M (tgt := 31) dX6_whyNotAsk_26 (by decide) (fun c_6 => ?_) (fun c_6 => ?_)
    · obtain ⟨j, hj, rfl⟩ := nbt c_2
      have ej : (nI j).toInt.toNat = j := zt (by omega)
      obtain ⟨k1, hk1, rfl⟩ := zNt (by decide) c_4
      have ek1 : (nI k1).toInt.toNat = k1 := zt (by omega)
      obtain ⟨n1, hn1, rfl⟩ := zNt (by decide) c_6
      have en1 : (nI n1).toInt.toNat = n1 := zt (by omega)
      have hk2 : k1 < 3 := by omega
      refine lv_aload_n hx hb dX6_whyNotAsk_31 rfl (lv_at hl 0 rfl) ?_
      refine lv_iload_n hx hb dX6_whyNotAsk_32 rfl (lv_at hl 1 rfl) ?_
      refine x_cSI (As := [.ref a, .int (nI j)]) (k_X6_activity l G Y a j ρ (hI) (by omega)) cw_X6_67 [0] M hK hZ hw hl.1 rfl (by decide) ⟨by decide, by decide⟩ ⟨Nat.zero_le _, Nat.zero_le _⟩ rfl rfl (Nat.le_of_ble_eq_true rfl) dX6_whyNotAsk_33 (fun r sg h_7 H locs hw => ?_)
      obtain ⟨rfl, rfl⟩ := h_7
      have hw : xW G A s.heap [[(a, .inl (Y 0, 140, .inl (rowF ρ)))]] H locs := hw
      have q_8 : act ρ j ≤ 243 := act_le hI (by omega)
      refine lv_aload_n hx hb dX6_whyNotAsk_36 rfl (lv_at hl 0 rfl) ?_
      refine lv_bipush (v := (nI 8)) hx hb dX6_whyNotAsk_37 (by decide) ?_
      refine lv_iload_n hx hb dX6_whyNotAsk_39 rfl (lv_at hl 2 rfl) ?_
      refine x_iadd M (n := 8 + k1) dX6_whyNotAsk_40 rfl ?_
      refine x_iald M hK hw 0 0 rfl rfl (by omega) (by decide) dX6_whyNotAsk_41 ?_
      refine x_topN (n := ρ (8 + k1)) rfl ?_
      have q_9 : 1 ≤ ρ (8 + k1) := (hI.pts (k := k1) (by omega) rfl).1
      have q_10 : ρ (8 + k1) ≤ 9 := (hI.pts (k := k1) (by omega) rfl).2
      refine lv_iload_n hx hb dX6_whyNotAsk_42 rfl (lv_at hl 3 rfl) ?_
      refine lv_aload_n hx hb dX6_whyNotAsk_43 rfl (lv_at hl 0 rfl) ?_
      refine lv_iload_n hx hb dX6_whyNotAsk_44 rfl (lv_at hl 1 rfl) ?_
      refine x_cSI (As := [.int (nI j)]) (k_X6_at l G Y j) cw_X6_49 [] M hK hZ hw hl.1 rfl (by decide) ⟨by decide, by decide⟩ ⟨Nat.zero_le _, Nat.zero_le _⟩ rfl rfl (Nat.le_of_ble_eq_true rfl) dX6_whyNotAsk_45 (fun r sg h_11 H locs hw => ?_)
      obtain ⟨rfl, rfl⟩ := h_11
      have hw : xW G A s.heap [[(a, .inl (Y 0, 140, .inl (rowF ρ)))]] H locs := hw
      refine lv_iconst (v := (nI 5)) hx hb dX6_whyNotAsk_48 (by decide) ?_
      refine x_iadd M (n := 19 + 21 * j) dX6_whyNotAsk_49 (by omega) ?_
      refine lv_iload_n hx hb dX6_whyNotAsk_50 rfl (lv_at hl 2 rfl) ?_
      refine x_iadd M (n := 19 + 21 * j + k1) dX6_whyNotAsk_51 rfl ?_
      refine x_iald M hK hw 0 0 rfl rfl (by omega) (by decide) dX6_whyNotAsk_52 ?_
      refine x_topN (n := ρ (19 + 21 * j + k1)) rfl ?_
      have q_12 : ρ (19 + 21 * j + k1) ≤ 9 := hI.dem (j := j) (by omega) (k := k1) (by omega) (by omega)
      refine lv_isub hx hb dX6_whyNotAsk_53 ?_
      refine lv_imul hx hb dX6_whyNotAsk_54 ?_
      refine lv_iadd hx hb dX6_whyNotAsk_55 ?_
      refine lv_istore (lv' := [(4, .int ((nI (act ρ j)) + ((nI (ρ (8 + k1))) * ((nI n1) - (nI (ρ (19 + 21 * j + k1))))))), (0, .ref a), (1, .int (nI j)), (2, .int (nI k1)), (3, .int (nI n1))]) hx hb dX6_whyNotAsk_56 hl (by decide) rfl (fun ls hl => ?_)
      refine lv_aload_n hx hb dX6_whyNotAsk_58 rfl (lv_at hl 1 rfl) ?_
      refine lv_iconst (v := (nI 1)) hx hb dX6_whyNotAsk_59 (by decide) ?_
      refine x_iald M hK hw 0 0 rfl rfl (by decide) (by decide) dX6_whyNotAsk_60 ?_
      refine x_topN (n := ρ 1) rfl ?_
      have q_13 : ρ 1 ≤ 1 := hI.over
      refine lv_iconst (v := (nI 1)) hx hb dX6_whyNotAsk_61 (by decide) ?_
      refine x_ceq M (tgt := 99) (by omega) (by decide) dX6_whyNotAsk_62 (by decide) (fun c_14 => ?_) (fun c_14 => ?_)
      · refine lv_iconst (v := (nI 3)) hx hb dX6_whyNotAsk_99 (by decide) ?_
        refine lv_goto (tgt := 104) hx hb dX6_whyNotAsk_100 (by decide) ?_
        exact hret _ _ _ (nI 3) _ _ dX6_whyNotAsk_104 hw rfl rfl ⟨congrArg nI (by clear hret hw hl M hK hZ hx hb; unfold whyAsk; (first | rw [if_pos c_2] | rw [if_neg (Bool.eq_false_iff.mp c_2)] | rw [if_neg (nIn c_2)] | rw [if_pos (nOut c_2)] | rw [if_neg (by omega)] | rw [if_pos (by omega)]) <;> (first | rw [if_pos c_4] | rw [if_neg (Bool.eq_false_iff.mp c_4)] | rw [if_neg (nIn c_4)] | rw [if_pos (nOut c_4)] | rw [if_neg (by omega)] | rw [if_pos (by omega)]) <;> (first | rw [if_pos c_6] | rw [if_neg (Bool.eq_false_iff.mp c_6)] | rw [if_neg (nIn c_6)] | rw [if_pos (nOut c_6)] | rw [if_neg (by omega)] | rw [if_pos (by omega)]); unfold askBad; rw [ej, ek1, en1]; rw [if_neg (by omega)]), rfl⟩
      refine lv_iload_n hx hb dX6_whyNotAsk_65 rfl (lv_at hl 4 rfl) ?_
      refine lv_aload_n hx hb dX6_whyNotAsk_66 rfl (lv_at hl 1 rfl) ?_
      refine lv_iload_n hx hb dX6_whyNotAsk_67 rfl (lv_at hl 2 rfl) ?_
      refine x_cSI (As := [.int (nI j)]) (k_X6_at l G Y j) cw_X6_49 [] M hK hZ hw hl.1 rfl (by decide) ⟨by decide, by decide⟩ ⟨Nat.zero_le _, Nat.zero_le _⟩ rfl rfl (Nat.le_of_ble_eq_true rfl) dX6_whyNotAsk_68 (fun r sg h_15 H locs hw => ?_)
      obtain ⟨rfl, rfl⟩ := h_15
      have hw : xW G A s.heap [[(a, .inl (Y 0, 140, .inl (rowF ρ)))]] H locs := hw
      refine lv_iconst (v := (nI 1)) hx hb dX6_whyNotAsk_71 (by decide) ?_
      refine x_iadd M (n := 15 + 21 * j) dX6_whyNotAsk_72 (by omega) ?_
      refine x_iald M hK hw 0 0 rfl rfl (by omega) (by decide) dX6_whyNotAsk_73 ?_
      refine x_topN (n := ρ (15 + 21 * j)) rfl ?_
      have q_16 : 1 ≤ ρ (15 + 21 * j) := (hI.cap (j := j) (by omega) (by omega)).1
      have q_17 : ρ (15 + 21 * j) ≤ 9 := (hI.cap (j := j) (by omega) (by omega)).2
      refine x_cgt M (tgt := 99) (by omega) (by omega) dX6_whyNotAsk_74 (by decide) (fun c_18 => ?_) (fun c_18 => ?_)
      · refine lv_iconst (v := (nI 3)) hx hb dX6_whyNotAsk_99 (by decide) ?_
        refine lv_goto (tgt := 104) hx hb dX6_whyNotAsk_100 (by decide) ?_
        exact hret _ _ _ (nI 3) _ _ dX6_whyNotAsk_104 hw rfl rfl ⟨congrArg nI (by clear hret hw hl M hK hZ hx hb; unfold whyAsk; (first | rw [if_pos c_2] | rw [if_neg (Bool.eq_false_iff.mp c_2)] | rw [if_neg (nIn c_2)] | rw [if_pos (nOut c_2)] | rw [if_neg (by omega)] | rw [if_pos (by omega)]) <;> (first | rw [if_pos c_4] | rw [if_neg (Bool.eq_false_iff.mp c_4)] | rw [if_neg (nIn c_4)] | rw [if_pos (nOut c_4)] | rw [if_neg (by omega)] | rw [if_pos (by omega)]) <;> (first | rw [if_pos c_6] | rw [if_neg (Bool.eq_false_iff.mp c_6)] | rw [if_neg (nIn c_6)] | rw [if_pos (nOut c_6)] | rw [if_neg (by omega)] | rw [if_pos (by omega)]); unfold askBad; rw [ej, ek1, en1]; rw [if_pos (by omega)]; rw [if_neg (by unfold most; omega)]), rfl⟩
      refine lv_iload_n hx hb dX6_whyNotAsk_77 rfl (lv_at hl 4 rfl) ?_
      refine lv_aload_n hx hb dX6_whyNotAsk_78 rfl (lv_at hl 1 rfl) ?_
      refine lv_iconst (v := (nI 5)) hx hb dX6_whyNotAsk_79 (by decide) ?_
      refine lv_iload_n hx hb dX6_whyNotAsk_80 rfl (lv_at hl 3 rfl) ?_
      refine x_iadd M (n := 5 + k1) dX6_whyNotAsk_81 rfl ?_
      refine x_iald M hK hw 0 0 rfl rfl (by omega) (by decide) dX6_whyNotAsk_82 ?_
      refine x_topN (n := ρ (5 + k1)) rfl ?_
      have q_19 : 1 ≤ ρ (5 + k1) := (hI.sup (k := k1) (by omega) rfl).1
      have q_20 : ρ (5 + k1) ≤ 9 := (hI.sup (k := k1) (by omega) rfl).2
      refine x_cgt M (tgt := 99) (by omega) (by omega) dX6_whyNotAsk_83 (by decide) (fun c_21 => ?_) (fun c_21 => ?_)
      · refine lv_iconst (v := (nI 3)) hx hb dX6_whyNotAsk_99 (by decide) ?_
        refine lv_goto (tgt := 104) hx hb dX6_whyNotAsk_100 (by decide) ?_
        exact hret _ _ _ (nI 3) _ _ dX6_whyNotAsk_104 hw rfl rfl ⟨congrArg nI (by clear hret hw hl M hK hZ hx hb; unfold whyAsk; (first | rw [if_pos c_2] | rw [if_neg (Bool.eq_false_iff.mp c_2)] | rw [if_neg (nIn c_2)] | rw [if_pos (nOut c_2)] | rw [if_neg (by omega)] | rw [if_pos (by omega)]) <;> (first | rw [if_pos c_4] | rw [if_neg (Bool.eq_false_iff.mp c_4)] | rw [if_neg (nIn c_4)] | rw [if_pos (nOut c_4)] | rw [if_neg (by omega)] | rw [if_pos (by omega)]) <;> (first | rw [if_pos c_6] | rw [if_neg (Bool.eq_false_iff.mp c_6)] | rw [if_neg (nIn c_6)] | rw [if_pos (nOut c_6)] | rw [if_neg (by omega)] | rw [if_pos (by omega)]); unfold askBad; rw [ej, ek1, en1]; rw [if_pos (by omega)]; rw [if_neg (by unfold most; omega)]), rfl⟩
      refine lv_iload hx hb dX6_whyNotAsk_86 (lv_at hl 0 rfl) ?_
      refine lv_aload_n hx hb dX6_whyNotAsk_88 rfl (lv_at hl 1 rfl) ?_
      refine lv_iload_n hx hb dX6_whyNotAsk_89 rfl (lv_at hl 2 rfl) ?_
      refine x_cSI (As := [.int (nI j)]) (k_X6_at l G Y j) cw_X6_49 [] M hK hZ hw hl.1 rfl (by decide) ⟨by decide, by decide⟩ ⟨Nat.zero_le _, Nat.zero_le _⟩ rfl rfl (Nat.le_of_ble_eq_true rfl) dX6_whyNotAsk_90 (fun r sg h_22 H locs hw => ?_)
      obtain ⟨rfl, rfl⟩ := h_22
      have hw : xW G A s.heap [[(a, .inl (Y 0, 140, .inl (rowF ρ)))]] H locs := hw
      refine lv_iconst (v := (nI 0)) hx hb dX6_whyNotAsk_93 (by decide) ?_
      refine x_iadd M (n := 14 + 21 * j) dX6_whyNotAsk_94 (by omega) ?_
      refine x_iald M hK hw 0 0 rfl rfl (by omega) (by decide) dX6_whyNotAsk_95 ?_
      refine x_topN (n := ρ (14 + 21 * j)) rfl ?_
      have q_23 : ρ (14 + 21 * j) ≤ 99 := hI.rgt (j := j) (by omega) (by omega)
      refine lv_icmp_le (tgt := 103) hx hb dX6_whyNotAsk_96 (by decide) (fun c_24 => ?_) (fun c_24 => ?_)
      · refine lv_iconst (v := (nI 0)) hx hb dX6_whyNotAsk_103 (by decide) ?_
        exact hret _ _ _ (nI 0) _ _ dX6_whyNotAsk_104 hw rfl rfl ⟨congrArg nI (by clear hret hw hl M hK hZ hx hb; unfold whyAsk; (first | rw [if_pos c_2] | rw [if_neg (Bool.eq_false_iff.mp c_2)] | rw [if_neg (nIn c_2)] | rw [if_pos (nOut c_2)] | rw [if_neg (by omega)] | rw [if_pos (by omega)]) <;> (first | rw [if_pos c_4] | rw [if_neg (Bool.eq_false_iff.mp c_4)] | rw [if_neg (nIn c_4)] | rw [if_pos (nOut c_4)] | rw [if_neg (by omega)] | rw [if_pos (by omega)]) <;> (first | rw [if_pos c_6] | rw [if_neg (Bool.eq_false_iff.mp c_6)] | rw [if_neg (nIn c_6)] | rw [if_pos (nOut c_6)] | rw [if_neg (by omega)] | rw [if_pos (by omega)]); unfold askBad; rw [ej, ek1, en1]; rw [if_pos (by omega)]; rw [if_pos (by unfold most; omega)]; rw [Int32.mul_comm (nI n1 - nI (ρ (19 + 21 * j + k1)))]; rw [if_pos c_24]), rfl⟩
      refine lv_iconst (v := (nI 3)) hx hb dX6_whyNotAsk_99 (by decide) ?_
      refine lv_goto (tgt := 104) hx hb dX6_whyNotAsk_100 (by decide) ?_
      exact hret _ _ _ (nI 3) _ _ dX6_whyNotAsk_104 hw rfl rfl ⟨congrArg nI (by clear hret hw hl M hK hZ hx hb; unfold whyAsk; (first | rw [if_pos c_2] | rw [if_neg (Bool.eq_false_iff.mp c_2)] | rw [if_neg (nIn c_2)] | rw [if_pos (nOut c_2)] | rw [if_neg (by omega)] | rw [if_pos (by omega)]) <;> (first | rw [if_pos c_4] | rw [if_neg (Bool.eq_false_iff.mp c_4)] | rw [if_neg (nIn c_4)] | rw [if_pos (nOut c_4)] | rw [if_neg (by omega)] | rw [if_pos (by omega)]) <;> (first | rw [if_pos c_6] | rw [if_neg (Bool.eq_false_iff.mp c_6)] | rw [if_neg (nIn c_6)] | rw [if_pos (nOut c_6)] | rw [if_neg (by omega)] | rw [if_pos (by omega)]); unfold askBad; rw [ej, ek1, en1]; rw [if_pos (by omega)]; rw [if_pos (by unfold most; omega)]; rw [Int32.mul_comm (nI n1 - nI (ρ (19 + 21 * j + k1)))]; rw [if_neg c_24]), rfl⟩
    refine lv_iconst (v := (nI 2)) hx hb dX6_whyNotAsk_29 (by decide) ?_
    exact hret _ _ _ (nI 2) _ _ dX6_whyNotAsk_30 hw rfl rfl ⟨congrArg nI (by clear hret hw hl M hK hZ hx hb; unfold whyAsk; (first | rw [if_pos c_2] | rw [if_neg (Bool.eq_false_iff.mp c_2)] | rw [if_neg (nIn c_2)] | rw [if_pos (nOut c_2)] | rw [if_neg (by omega)] | rw [if_pos (by omega)]) <;> (first | rw [if_pos c_4] | rw [if_neg (Bool.eq_false_iff.mp c_4)] | rw [if_neg (nIn c_4)] | rw [if_pos (nOut c_4)] | rw [if_neg (by omega)] | rw [if_pos (by omega)]) <;> (first | rw [if_pos c_6] | rw [if_neg (Bool.eq_false_iff.mp c_6)] | rw [if_neg (nIn c_6)] | rw [if_pos (nOut c_6)] | rw [if_neg (by omega)] | rw [if_pos (by omega)])), rfl⟩
  refine lv_iconst (v := (nI 1)) hx hb dX6_whyNotAsk_15 (by decide) ?_
  exact hret _ _ _ (nI 1) _ _ dX6_whyNotAsk_16 hw rfl rfl ⟨congrArg nI (by clear hret hw hl M hK hZ hx hb; unfold whyAsk; (first | rw [if_pos c_2] | rw [if_neg (Bool.eq_false_iff.mp c_2)] | rw [if_neg (nIn c_2)] | rw [if_pos (nOut c_2)] | rw [if_neg (by omega)] | rw [if_pos (by omega)]) <;> (first | rw [if_pos c_4] | rw [if_neg (Bool.eq_false_iff.mp c_4)] | rw [if_neg (nIn c_4)] | rw [if_pos (nOut c_4)] | rw [if_neg (by omega)] | rw [if_pos (by omega)])), rfl⟩
set_option maxHeartbeats 4000000 in
set_option maxRecDepth 20000 in
theorem k_X6_whyNotAdd (l : Launch) (G : va_G) (Y : Nat → Nat) (a : Nat) (ρ : Nat → Nat) (b x y z v : Int32) (hI : Inv ρ) : CtI l yX6_whyNotAdd cX6_whyNotAdd 9 .int 2 46 [.ref a, .int b, .int x, .int y, .int z, .int v] [[(a, .inl (Y 0, 140, .inl (rowF ρ)))]] (fun r sg => r = nI (whyAdd ρ b.toInt x.toInt y.toInt z.toInt v.toInt) ∧ sg = [[(a, .inl (Y 0, 140, .inl (rowF ρ)))]]) G Y := by
  refine x_ofI (by decide) (Nat.le_of_ble_eq_true rfl) (fun p e s m args below meth c A ls Q M hK hZ hw hl hret => ?_)
  obtain ⟨hx, hb, -⟩ := id M
  have hl : lv_has ls 9 [(0, .ref a), (1, .int b), (2, .int x), (3, .int y), (4, .int z), (5, .int v)] := hl
  have := hI.n6
  have := hI.over
  have := hI.keep
  have := hI.stepp
  refine lv_aload_n hx hb dX6_whyNotAdd_0 rfl (lv_at hl 0 rfl) ?_
  refine lv_iload_n hx hb dX6_whyNotAdd_1 rfl (lv_at hl 1 rfl) ?_
  refine x_cSI (As := [.ref a, .int b]) (k_X6_isBidder l G Y a ρ b (hI)) cw_X6_79 [0] M hK hZ hw hl.1 rfl (by decide) ⟨by decide, by decide⟩ ⟨Nat.zero_le _, Nat.zero_le _⟩ rfl rfl (Nat.le_of_ble_eq_true rfl) dX6_whyNotAdd_2 (fun r sg h_1 H locs hw => ?_)
  obtain ⟨rfl, rfl⟩ := h_1
  have hw : xW G A s.heap [[(a, .inl (Y 0, 140, .inl (rowF ρ)))]] H locs := hw
  refine x_bne M (tgt := 10) dX6_whyNotAdd_5 (by decide) (fun c_2 => ?_) (fun c_2 => ?_)
  · refine lv_iload_n hx hb dX6_whyNotAdd_10 rfl (lv_at hl 2 rfl) ?_
    refine lv_i2l (v := x.toInt64) hx hb dX6_whyNotAdd_11 rfl ?_
    refine lv_lconst (v := 0) hx hb dX6_whyNotAdd_12 (by decide) ?_
    refine lv_ldc2 (v := 9) hx hb M.2.2.2.1 (M.2.2.2.2 _ mw_1086) dX6_whyNotAdd_13 ?_
    refine x_cSI (As := [.long x.toInt64, .long 0, .long 9]) (k_X6_in l G Y x.toInt64 0 9) cw_X6_45 [] M hK hZ hw hl.1 rfl (by decide) ⟨by decide, by decide⟩ ⟨Nat.zero_le _, Nat.zero_le _⟩ rfl rfl (Nat.le_of_ble_eq_true rfl) dX6_whyNotAdd_16 (fun r sg h_3 H locs hw => ?_)
    obtain ⟨rfl, rfl⟩ := h_3
    have hw : xW G A s.heap [[(a, .inl (Y 0, 140, .inl (rowF ρ)))]] H locs := hw
    refine x_topI (y := b2i (inZ x.toInt 0 9)) (by rw [Int32.toInt_toInt64]; rfl) ?_
    refine x_beq M (tgt := 60) dX6_whyNotAdd_19 (by decide) (fun c_4 => ?_) (fun c_4 => ?_)
    · refine lv_iconst (v := (nI 2)) hx hb dX6_whyNotAdd_60 (by decide) ?_
      exact hret _ _ _ (nI 2) _ _ dX6_whyNotAdd_61 hw rfl rfl ⟨congrArg nI (by clear hret hw hl M hK hZ hx hb; unfold whyAdd; (first | rw [if_pos c_2] | rw [if_neg (Bool.eq_false_iff.mp c_2)] | rw [if_neg (nIn c_2)] | rw [if_pos (nOut c_2)] | rw [if_neg (by omega)] | rw [if_pos (by omega)]) <;> (first | rw [if_pos c_4] | rw [if_neg (Bool.eq_false_iff.mp c_4)] | rw [if_neg (nIn c_4)] | rw [if_pos (nOut c_4)] | rw [if_neg (by omega)] | rw [if_pos (by omega)])), rfl⟩
    refine lv_iload_n hx hb dX6_whyNotAdd_22 rfl (lv_at hl 3 rfl) ?_
    refine lv_i2l (v := y.toInt64) hx hb dX6_whyNotAdd_23 rfl ?_
    refine lv_lconst (v := 0) hx hb dX6_whyNotAdd_24 (by decide) ?_
    refine lv_ldc2 (v := 9) hx hb M.2.2.2.1 (M.2.2.2.2 _ mw_1086) dX6_whyNotAdd_25 ?_
    refine x_cSI (As := [.long y.toInt64, .long 0, .long 9]) (k_X6_in l G Y y.toInt64 0 9) cw_X6_45 [] M hK hZ hw hl.1 rfl (by decide) ⟨by decide, by decide⟩ ⟨Nat.zero_le _, Nat.zero_le _⟩ rfl rfl (Nat.le_of_ble_eq_true rfl) dX6_whyNotAdd_28 (fun r sg h_5 H locs hw => ?_)
    obtain ⟨rfl, rfl⟩ := h_5
    have hw : xW G A s.heap [[(a, .inl (Y 0, 140, .inl (rowF ρ)))]] H locs := hw
    refine x_topI (y := b2i (inZ y.toInt 0 9)) (by rw [Int32.toInt_toInt64]; rfl) ?_
    refine x_beq M (tgt := 60) dX6_whyNotAdd_31 (by decide) (fun c_6 => ?_) (fun c_6 => ?_)
    · refine lv_iconst (v := (nI 2)) hx hb dX6_whyNotAdd_60 (by decide) ?_
      exact hret _ _ _ (nI 2) _ _ dX6_whyNotAdd_61 hw rfl rfl ⟨congrArg nI (by clear hret hw hl M hK hZ hx hb; unfold whyAdd; (first | rw [if_pos c_2] | rw [if_neg (Bool.eq_false_iff.mp c_2)] | rw [if_neg (nIn c_2)] | rw [if_pos (nOut c_2)] | rw [if_neg (by omega)] | rw [if_pos (by omega)]) <;> (first | rw [if_pos c_4] | rw [if_neg (Bool.eq_false_iff.mp c_4)] | rw [if_neg (nIn c_4)] | rw [if_pos (nOut c_4)] | rw [if_neg (by omega)] | rw [if_pos (by omega)]) <;> (first | rw [if_pos c_6] | rw [if_neg (Bool.eq_false_iff.mp c_6)] | rw [if_neg (nIn c_6)] | rw [if_pos (nOut c_6)] | rw [if_neg (by omega)] | rw [if_pos (by omega)])), rfl⟩
    refine lv_iload hx hb dX6_whyNotAdd_34 (lv_at hl 4 rfl) ?_
    refine lv_i2l (v := z.toInt64) hx hb dX6_whyNotAdd_36 rfl ?_
    refine lv_lconst (v := 0) hx hb dX6_whyNotAdd_37 (by decide) ?_
    refine lv_ldc2 (v := 9) hx hb M.2.2.2.1 (M.2.2.2.2 _ mw_1086) dX6_whyNotAdd_38 ?_
    refine x_cSI (As := [.long z.toInt64, .long 0, .long 9]) (k_X6_in l G Y z.toInt64 0 9) cw_X6_45 [] M hK hZ hw hl.1 rfl (by decide) ⟨by decide, by decide⟩ ⟨Nat.zero_le _, Nat.zero_le _⟩ rfl rfl (Nat.le_of_ble_eq_true rfl) dX6_whyNotAdd_41 (fun r sg h_7 H locs hw => ?_)
    obtain ⟨rfl, rfl⟩ := h_7
    have hw : xW G A s.heap [[(a, .inl (Y 0, 140, .inl (rowF ρ)))]] H locs := hw
    refine x_topI (y := b2i (inZ z.toInt 0 9)) (by rw [Int32.toInt_toInt64]; rfl) ?_
    refine x_beq M (tgt := 60) dX6_whyNotAdd_44 (by decide) (fun c_8 => ?_) (fun c_8 => ?_)
    · refine lv_iconst (v := (nI 2)) hx hb dX6_whyNotAdd_60 (by decide) ?_
      exact hret _ _ _ (nI 2) _ _ dX6_whyNotAdd_61 hw rfl rfl ⟨congrArg nI (by clear hret hw hl M hK hZ hx hb; unfold whyAdd; (first | rw [if_pos c_2] | rw [if_neg (Bool.eq_false_iff.mp c_2)] | rw [if_neg (nIn c_2)] | rw [if_pos (nOut c_2)] | rw [if_neg (by omega)] | rw [if_pos (by omega)]) <;> (first | rw [if_pos c_4] | rw [if_neg (Bool.eq_false_iff.mp c_4)] | rw [if_neg (nIn c_4)] | rw [if_pos (nOut c_4)] | rw [if_neg (by omega)] | rw [if_pos (by omega)]) <;> (first | rw [if_pos c_6] | rw [if_neg (Bool.eq_false_iff.mp c_6)] | rw [if_neg (nIn c_6)] | rw [if_pos (nOut c_6)] | rw [if_neg (by omega)] | rw [if_pos (by omega)]) <;> (first | rw [if_pos c_8] | rw [if_neg (Bool.eq_false_iff.mp c_8)] | rw [if_neg (nIn c_8)] | rw [if_pos (nOut c_8)] | rw [if_neg (by omega)] | rw [if_pos (by omega)])), rfl⟩
    refine lv_iload hx hb dX6_whyNotAdd_47 (lv_at hl 5 rfl) ?_
    refine lv_i2l (v := v.toInt64) hx hb dX6_whyNotAdd_49 rfl ?_
    refine lv_lconst (v := 1) hx hb dX6_whyNotAdd_50 (by decide) ?_
    refine lv_ldc2 (v := 999999) hx hb M.2.2.2.1 (M.2.2.2.2 _ mw_1214) dX6_whyNotAdd_51 ?_
    refine x_cSI (As := [.long v.toInt64, .long 1, .long 999999]) (k_X6_in l G Y v.toInt64 1 999999) cw_X6_45 [] M hK hZ hw hl.1 rfl (by decide) ⟨by decide, by decide⟩ ⟨Nat.zero_le _, Nat.zero_le _⟩ rfl rfl (Nat.le_of_ble_eq_true rfl) dX6_whyNotAdd_54 (fun r sg h_9 H locs hw => ?_)
    obtain ⟨rfl, rfl⟩ := h_9
    have hw : xW G A s.heap [[(a, .inl (Y 0, 140, .inl (rowF ρ)))]] H locs := hw
    refine x_topI (y := b2i (inZ v.toInt 1 999999)) (by rw [Int32.toInt_toInt64]; rfl) ?_
    refine x_bne M (tgt := 62) dX6_whyNotAdd_57 (by decide) (fun c_10 => ?_) (fun c_10 => ?_)
    · obtain ⟨j, hj, rfl⟩ := nbt c_2
      have ej : (nI j).toInt.toNat = j := zt (by omega)
      obtain ⟨x1, hx1, rfl⟩ := zNt (by decide) c_4
      have ex1 : (nI x1).toInt.toNat = x1 := zt (by omega)
      obtain ⟨y1, hy1, rfl⟩ := zNt (by decide) c_6
      have ey1 : (nI y1).toInt.toNat = y1 := zt (by omega)
      obtain ⟨z1, hz1, rfl⟩ := zNt (by decide) c_8
      have ez1 : (nI z1).toInt.toNat = z1 := zt (by omega)
      obtain ⟨v1, hv1, rfl⟩ := zNt (by decide) c_10
      have ev1 : (nI v1).toInt.toNat = v1 := zt (by omega)
      have := hI.pck (j := j) (by omega) rfl
      refine lv_aload_n hx hb dX6_whyNotAdd_62 rfl (lv_at hl 0 rfl) ?_
      refine lv_iload_n hx hb dX6_whyNotAdd_63 rfl (lv_at hl 1 rfl) ?_
      refine x_cSI (As := [.int (nI j)]) (k_X6_at l G Y j) cw_X6_49 [] M hK hZ hw hl.1 rfl (by decide) ⟨by decide, by decide⟩ ⟨Nat.zero_le _, Nat.zero_le _⟩ rfl rfl (Nat.le_of_ble_eq_true rfl) dX6_whyNotAdd_64 (fun r sg h_11 H locs hw => ?_)
      obtain ⟨rfl, rfl⟩ := h_11
      have hw : xW G A s.heap [[(a, .inl (Y 0, 140, .inl (rowF ρ)))]] H locs := hw
      refine lv_iconst (v := (nI 1)) hx hb dX6_whyNotAdd_67 (by decide) ?_
      refine x_iadd M (n := 15 + 21 * j) dX6_whyNotAdd_68 (by omega) ?_
      refine x_iald M hK hw 0 0 rfl rfl (by omega) (by decide) dX6_whyNotAdd_69 ?_
      refine x_topN (n := ρ (15 + 21 * j)) rfl ?_
      have q_12 : 1 ≤ ρ (15 + 21 * j) := (hI.cap (j := j) (by omega) (by omega)).1
      have q_13 : ρ (15 + 21 * j) ≤ 9 := (hI.cap (j := j) (by omega) (by omega)).2
      refine lv_istore (lv' := [(6, .int (nI (ρ (15 + 21 * j)))), (0, .ref a), (1, .int (nI j)), (2, .int (nI x1)), (3, .int (nI y1)), (4, .int (nI z1)), (5, .int (nI v1))]) hx hb dX6_whyNotAdd_70 hl (by decide) rfl (fun ls hl => ?_)
      have L125 : ∀ (f1 : Bool), (f1 = decide (x1 ≤ most ρ j 0 ∧ y1 ≤ most ρ j 1 ∧ z1 ≤ most ρ j 2 ∧ 0 < x1 + y1 + z1)) → ∀ (H : Heap) (locs : List Loc), xW G A s.heap [[(a, .inl (Y 0, 140, .inl (rowF ρ)))]] H locs → ∀ (ls : Array Slot), lv_has ls 9 [(0, .ref a), (1, .int (nI j)), (2, .int (nI x1)), (3, .int (nI y1)), (4, .int (nI z1)), (5, .int (nI v1)), (6, .int (nI (ρ (15 + 21 * j))))] → W p l e (xRm 2 46) s m args below meth c H locs 0 0 Q (F0 m 125 ls [.int (b2i f1)]) := by
        intro f1 hf1 H locs hw ls hl
        refine lv_istore (lv' := [(7, .int (b2i f1)), (0, .ref a), (1, .int (nI j)), (2, .int (nI x1)), (3, .int (nI y1)), (4, .int (nI z1)), (5, .int (nI v1)), (6, .int (nI (ρ (15 + 21 * j))))]) hx hb dX6_whyNotAdd_125 hl (by decide) rfl (fun ls hl => ?_)
        have L190 : ∀ (g1 : Bool), (g1 = decide (x1 * ρ 8 + y1 * ρ 9 + z1 * ρ 10 ≤ ρ (14 + 21 * j) ∧ costOf ρ x1 y1 z1 ≤ v1)) → ∀ (H : Heap) (locs : List Loc), xW G A s.heap [[(a, .inl (Y 0, 140, .inl (rowF ρ)))]] H locs → ∀ (ls : Array Slot), lv_has ls 9 [(0, .ref a), (1, .int (nI j)), (2, .int (nI x1)), (3, .int (nI y1)), (4, .int (nI z1)), (5, .int (nI v1)), (6, .int (nI (ρ (15 + 21 * j)))), (7, .int (b2i f1))] → W p l e (xRm 2 46) s m args below meth c H locs 0 0 Q (F0 m 190 ls [.int (b2i g1)]) := by
          intro g1 hg1 H locs hw ls hl
          refine lv_istore (lv' := [(8, .int (b2i g1)), (0, .ref a), (1, .int (nI j)), (2, .int (nI x1)), (3, .int (nI y1)), (4, .int (nI z1)), (5, .int (nI v1)), (6, .int (nI (ρ (15 + 21 * j)))), (7, .int (b2i f1))]) hx hb dX6_whyNotAdd_190 hl (by decide) rfl (fun ls hl => ?_)
          refine lv_aload_n hx hb dX6_whyNotAdd_192 rfl (lv_at hl 1 rfl) ?_
          refine lv_iconst (v := (nI 1)) hx hb dX6_whyNotAdd_193 (by decide) ?_
          refine x_iald M hK hw 0 0 rfl rfl (by decide) (by decide) dX6_whyNotAdd_194 ?_
          refine x_topN (n := ρ 1) rfl ?_
          have q_14 : ρ 1 ≤ 1 := hI.over
          refine lv_iconst (v := (nI 1)) hx hb dX6_whyNotAdd_195 (by decide) ?_
          refine x_cne M (tgt := 226) (by omega) (by decide) dX6_whyNotAdd_196 (by decide) (fun c_15 => ?_) (fun c_15 => ?_)
          · refine lv_iconst (v := (nI 3)) hx hb dX6_whyNotAdd_226 (by decide) ?_
            exact hret _ _ _ (nI 3) _ _ dX6_whyNotAdd_227 hw rfl rfl ⟨congrArg nI (by clear hret hw hl M hK hZ hx hb; unfold whyAdd; (first | rw [if_pos c_2] | rw [if_neg (Bool.eq_false_iff.mp c_2)] | rw [if_neg (nIn c_2)] | rw [if_pos (nOut c_2)] | rw [if_neg (by omega)] | rw [if_pos (by omega)]) <;> (first | rw [if_pos c_4] | rw [if_neg (Bool.eq_false_iff.mp c_4)] | rw [if_neg (nIn c_4)] | rw [if_pos (nOut c_4)] | rw [if_neg (by omega)] | rw [if_pos (by omega)]) <;> (first | rw [if_pos c_6] | rw [if_neg (Bool.eq_false_iff.mp c_6)] | rw [if_neg (nIn c_6)] | rw [if_pos (nOut c_6)] | rw [if_neg (by omega)] | rw [if_pos (by omega)]) <;> (first | rw [if_pos c_8] | rw [if_neg (Bool.eq_false_iff.mp c_8)] | rw [if_neg (nIn c_8)] | rw [if_pos (nOut c_8)] | rw [if_neg (by omega)] | rw [if_pos (by omega)]) <;> (first | rw [if_pos c_10] | rw [if_neg (Bool.eq_false_iff.mp c_10)] | rw [if_neg (nIn c_10)] | rw [if_pos (nOut c_10)] | rw [if_neg (by omega)] | rw [if_pos (by omega)]); rw [ej, ex1, ey1, ez1, ev1]; unfold addOk mayHv; rw [if_pos (by omega)]), rfl⟩
          refine lv_aload_n hx hb dX6_whyNotAdd_199 rfl (lv_at hl 1 rfl) ?_
          refine lv_iload_n hx hb dX6_whyNotAdd_200 rfl (lv_at hl 2 rfl) ?_
          refine x_cSI (As := [.int (nI j)]) (k_X6_at l G Y j) cw_X6_49 [] M hK hZ hw hl.1 rfl (by decide) ⟨by decide, by decide⟩ ⟨Nat.zero_le _, Nat.zero_le _⟩ rfl rfl (Nat.le_of_ble_eq_true rfl) dX6_whyNotAdd_201 (fun r sg h_16 H locs hw => ?_)
          obtain ⟨rfl, rfl⟩ := h_16
          have hw : xW G A s.heap [[(a, .inl (Y 0, 140, .inl (rowF ρ)))]] H locs := hw
          refine lv_bipush (v := (nI 8)) hx hb dX6_whyNotAdd_204 (by decide) ?_
          refine x_iadd M (n := 22 + 21 * j) dX6_whyNotAdd_206 (by omega) ?_
          refine x_iald M hK hw 0 0 rfl rfl (by omega) (by decide) dX6_whyNotAdd_207 ?_
          refine x_topN (n := ρ (22 + 21 * j)) rfl ?_
          have q_17 : ρ (22 + 21 * j) ≤ 3 := hI.pck (j := j) (by omega) (by omega)
          refine lv_iconst (v := (nI 3)) hx hb dX6_whyNotAdd_208 (by decide) ?_
          refine x_cge M (tgt := 226) (by omega) (by decide) dX6_whyNotAdd_209 (by decide) (fun c_18 => ?_) (fun c_18 => ?_)
          · refine lv_iconst (v := (nI 3)) hx hb dX6_whyNotAdd_226 (by decide) ?_
            exact hret _ _ _ (nI 3) _ _ dX6_whyNotAdd_227 hw rfl rfl ⟨congrArg nI (by clear hret hw hl M hK hZ hx hb; unfold whyAdd; (first | rw [if_pos c_2] | rw [if_neg (Bool.eq_false_iff.mp c_2)] | rw [if_neg (nIn c_2)] | rw [if_pos (nOut c_2)] | rw [if_neg (by omega)] | rw [if_pos (by omega)]) <;> (first | rw [if_pos c_4] | rw [if_neg (Bool.eq_false_iff.mp c_4)] | rw [if_neg (nIn c_4)] | rw [if_pos (nOut c_4)] | rw [if_neg (by omega)] | rw [if_pos (by omega)]) <;> (first | rw [if_pos c_6] | rw [if_neg (Bool.eq_false_iff.mp c_6)] | rw [if_neg (nIn c_6)] | rw [if_pos (nOut c_6)] | rw [if_neg (by omega)] | rw [if_pos (by omega)]) <;> (first | rw [if_pos c_8] | rw [if_neg (Bool.eq_false_iff.mp c_8)] | rw [if_neg (nIn c_8)] | rw [if_pos (nOut c_8)] | rw [if_neg (by omega)] | rw [if_pos (by omega)]) <;> (first | rw [if_pos c_10] | rw [if_neg (Bool.eq_false_iff.mp c_10)] | rw [if_neg (nIn c_10)] | rw [if_pos (nOut c_10)] | rw [if_neg (by omega)] | rw [if_pos (by omega)]); rw [ej, ex1, ey1, ez1, ev1]; unfold addOk mayHv; rw [if_neg (by omega)]; rw [if_pos (by omega)]), rfl⟩
          refine lv_iload hx hb dX6_whyNotAdd_212 (lv_at hl 8 rfl) ?_
          refine x_beq M (tgt := 226) dX6_whyNotAdd_214 (by decide) (fun c_19 => ?_) (fun c_19 => ?_)
          · refine lv_iconst (v := (nI 3)) hx hb dX6_whyNotAdd_226 (by decide) ?_
            exact hret _ _ _ (nI 3) _ _ dX6_whyNotAdd_227 hw rfl rfl ⟨congrArg nI (by clear hret hw hl M hK hZ hx hb; unfold whyAdd; (first | rw [if_pos c_2] | rw [if_neg (Bool.eq_false_iff.mp c_2)] | rw [if_neg (nIn c_2)] | rw [if_pos (nOut c_2)] | rw [if_neg (by omega)] | rw [if_pos (by omega)]) <;> (first | rw [if_pos c_4] | rw [if_neg (Bool.eq_false_iff.mp c_4)] | rw [if_neg (nIn c_4)] | rw [if_pos (nOut c_4)] | rw [if_neg (by omega)] | rw [if_pos (by omega)]) <;> (first | rw [if_pos c_6] | rw [if_neg (Bool.eq_false_iff.mp c_6)] | rw [if_neg (nIn c_6)] | rw [if_pos (nOut c_6)] | rw [if_neg (by omega)] | rw [if_pos (by omega)]) <;> (first | rw [if_pos c_8] | rw [if_neg (Bool.eq_false_iff.mp c_8)] | rw [if_neg (nIn c_8)] | rw [if_pos (nOut c_8)] | rw [if_neg (by omega)] | rw [if_pos (by omega)]) <;> (first | rw [if_pos c_10] | rw [if_neg (Bool.eq_false_iff.mp c_10)] | rw [if_neg (nIn c_10)] | rw [if_pos (nOut c_10)] | rw [if_neg (by omega)] | rw [if_pos (by omega)]); rw [ej, ex1, ey1, ez1, ev1]; unfold addOk mayHv; rw [if_neg (by omega)]; rw [if_neg (by omega)]; subst hf1; subst hg1; simp only [decide_eq_true_eq, decide_eq_false_iff_not] at c_19 ⊢; (repeat' split) <;> omega), rfl⟩
          refine lv_iload hx hb dX6_whyNotAdd_217 (lv_at hl 0 rfl) ?_
          refine x_beq M (tgt := 226) dX6_whyNotAdd_219 (by decide) (fun c_20 => ?_) (fun c_20 => ?_)
          · refine lv_iconst (v := (nI 3)) hx hb dX6_whyNotAdd_226 (by decide) ?_
            exact hret _ _ _ (nI 3) _ _ dX6_whyNotAdd_227 hw rfl rfl ⟨congrArg nI (by clear hret hw hl M hK hZ hx hb; unfold whyAdd; (first | rw [if_pos c_2] | rw [if_neg (Bool.eq_false_iff.mp c_2)] | rw [if_neg (nIn c_2)] | rw [if_pos (nOut c_2)] | rw [if_neg (by omega)] | rw [if_pos (by omega)]) <;> (first | rw [if_pos c_4] | rw [if_neg (Bool.eq_false_iff.mp c_4)] | rw [if_neg (nIn c_4)] | rw [if_pos (nOut c_4)] | rw [if_neg (by omega)] | rw [if_pos (by omega)]) <;> (first | rw [if_pos c_6] | rw [if_neg (Bool.eq_false_iff.mp c_6)] | rw [if_neg (nIn c_6)] | rw [if_pos (nOut c_6)] | rw [if_neg (by omega)] | rw [if_pos (by omega)]) <;> (first | rw [if_pos c_8] | rw [if_neg (Bool.eq_false_iff.mp c_8)] | rw [if_neg (nIn c_8)] | rw [if_pos (nOut c_8)] | rw [if_neg (by omega)] | rw [if_pos (by omega)]) <;> (first | rw [if_pos c_10] | rw [if_neg (Bool.eq_false_iff.mp c_10)] | rw [if_neg (nIn c_10)] | rw [if_pos (nOut c_10)] | rw [if_neg (by omega)] | rw [if_pos (by omega)]); rw [ej, ex1, ey1, ez1, ev1]; unfold addOk mayHv; rw [if_neg (by omega)]; rw [if_neg (by omega)]; subst hf1; subst hg1; simp only [decide_eq_true_eq, decide_eq_false_iff_not] at c_19 c_20 ⊢; (repeat' split) <;> omega), rfl⟩
          refine lv_iconst (v := (nI 0)) hx hb dX6_whyNotAdd_222 (by decide) ?_
          refine lv_goto (tgt := 227) hx hb dX6_whyNotAdd_223 (by decide) ?_
          exact hret _ _ _ (nI 0) _ _ dX6_whyNotAdd_227 hw rfl rfl ⟨congrArg nI (by clear hret hw hl M hK hZ hx hb; unfold whyAdd; (first | rw [if_pos c_2] | rw [if_neg (Bool.eq_false_iff.mp c_2)] | rw [if_neg (nIn c_2)] | rw [if_pos (nOut c_2)] | rw [if_neg (by omega)] | rw [if_pos (by omega)]) <;> (first | rw [if_pos c_4] | rw [if_neg (Bool.eq_false_iff.mp c_4)] | rw [if_neg (nIn c_4)] | rw [if_pos (nOut c_4)] | rw [if_neg (by omega)] | rw [if_pos (by omega)]) <;> (first | rw [if_pos c_6] | rw [if_neg (Bool.eq_false_iff.mp c_6)] | rw [if_neg (nIn c_6)] | rw [if_pos (nOut c_6)] | rw [if_neg (by omega)] | rw [if_pos (by omega)]) <;> (first | rw [if_pos c_8] | rw [if_neg (Bool.eq_false_iff.mp c_8)] | rw [if_neg (nIn c_8)] | rw [if_pos (nOut c_8)] | rw [if_neg (by omega)] | rw [if_pos (by omega)]) <;> (first | rw [if_pos c_10] | rw [if_neg (Bool.eq_false_iff.mp c_10)] | rw [if_neg (nIn c_10)] | rw [if_pos (nOut c_10)] | rw [if_neg (by omega)] | rw [if_pos (by omega)]); rw [ej, ex1, ey1, ez1, ev1]; unfold addOk mayHv; rw [if_neg (by omega)]; rw [if_neg (by omega)]; subst hf1; subst hg1; simp only [decide_eq_true_eq, decide_eq_false_iff_not] at c_19 c_20 ⊢; (repeat' split) <;> omega), rfl⟩
        refine lv_iload_n hx hb dX6_whyNotAdd_127 rfl (lv_at hl 3 rfl) ?_
        refine lv_aload_n hx hb dX6_whyNotAdd_128 rfl (lv_at hl 1 rfl) ?_
        refine lv_bipush (v := (nI 8)) hx hb dX6_whyNotAdd_129 (by decide) ?_
        refine x_iald M hK hw 0 0 rfl rfl (by decide) (by decide) dX6_whyNotAdd_131 ?_
        refine x_topN (n := ρ 8) rfl ?_
        have q_21 : 1 ≤ ρ 8 := (hI.pts (q := 8) (k := 0) (by decide) rfl).1
        have q_22 : ρ 8 ≤ 9 := (hI.pts (q := 8) (k := 0) (by decide) rfl).2
        refine x_imul M (n := x1 * (ρ 8)) dX6_whyNotAdd_132 rfl ?_
        have q_23 : x1 * (ρ 8) ≤ 81 := Nat.le_trans (Nat.mul_le_mul (show x1 ≤ 9 by omega) (show ρ 8 ≤ 9 by omega)) (by decide)
        refine lv_iload_n hx hb dX6_whyNotAdd_133 rfl (lv_at hl 4 rfl) ?_
        refine lv_aload_n hx hb dX6_whyNotAdd_134 rfl (lv_at hl 1 rfl) ?_
        refine lv_bipush (v := (nI 9)) hx hb dX6_whyNotAdd_135 (by decide) ?_
        refine x_iald M hK hw 0 0 rfl rfl (by decide) (by decide) dX6_whyNotAdd_137 ?_
        refine x_topN (n := ρ 9) rfl ?_
        have q_24 : 1 ≤ ρ 9 := (hI.pts (q := 9) (k := 1) (by decide) rfl).1
        have q_25 : ρ 9 ≤ 9 := (hI.pts (q := 9) (k := 1) (by decide) rfl).2
        refine x_imul M (n := y1 * (ρ 9)) dX6_whyNotAdd_138 rfl ?_
        have q_26 : y1 * (ρ 9) ≤ 81 := Nat.le_trans (Nat.mul_le_mul (show y1 ≤ 9 by omega) (show ρ 9 ≤ 9 by omega)) (by decide)
        refine x_iadd M (n := (x1 * (ρ 8)) + (y1 * (ρ 9))) dX6_whyNotAdd_139 rfl ?_
        refine lv_iload hx hb dX6_whyNotAdd_140 (lv_at hl 5 rfl) ?_
        refine lv_aload_n hx hb dX6_whyNotAdd_142 rfl (lv_at hl 1 rfl) ?_
        refine lv_bipush (v := (nI 10)) hx hb dX6_whyNotAdd_143 (by decide) ?_
        refine x_iald M hK hw 0 0 rfl rfl (by decide) (by decide) dX6_whyNotAdd_145 ?_
        refine x_topN (n := ρ 10) rfl ?_
        have q_27 : 1 ≤ ρ 10 := (hI.pts (q := 10) (k := 2) (by decide) rfl).1
        have q_28 : ρ 10 ≤ 9 := (hI.pts (q := 10) (k := 2) (by decide) rfl).2
        refine x_imul M (n := z1 * (ρ 10)) dX6_whyNotAdd_146 rfl ?_
        have q_29 : z1 * (ρ 10) ≤ 81 := Nat.le_trans (Nat.mul_le_mul (show z1 ≤ 9 by omega) (show ρ 10 ≤ 9 by omega)) (by decide)
        refine x_iadd M (n := (x1 * (ρ 8)) + (y1 * (ρ 9)) + (z1 * (ρ 10))) dX6_whyNotAdd_147 rfl ?_
        refine lv_aload_n hx hb dX6_whyNotAdd_148 rfl (lv_at hl 1 rfl) ?_
        refine lv_iload_n hx hb dX6_whyNotAdd_149 rfl (lv_at hl 2 rfl) ?_
        refine x_cSI (As := [.int (nI j)]) (k_X6_at l G Y j) cw_X6_49 [] M hK hZ hw hl.1 rfl (by decide) ⟨by decide, by decide⟩ ⟨Nat.zero_le _, Nat.zero_le _⟩ rfl rfl (Nat.le_of_ble_eq_true rfl) dX6_whyNotAdd_150 (fun r sg h_30 H locs hw => ?_)
        obtain ⟨rfl, rfl⟩ := h_30
        have hw : xW G A s.heap [[(a, .inl (Y 0, 140, .inl (rowF ρ)))]] H locs := hw
        refine lv_iconst (v := (nI 0)) hx hb dX6_whyNotAdd_153 (by decide) ?_
        refine x_iadd M (n := 14 + 21 * j) dX6_whyNotAdd_154 (by omega) ?_
        refine x_iald M hK hw 0 0 rfl rfl (by omega) (by decide) dX6_whyNotAdd_155 ?_
        refine x_topN (n := ρ (14 + 21 * j)) rfl ?_
        have q_31 : ρ (14 + 21 * j) ≤ 99 := hI.rgt (j := j) (by omega) (by omega)
        refine x_cgt M (tgt := 189) (by omega) (by omega) dX6_whyNotAdd_156 (by decide) (fun c_32 => ?_) (fun c_32 => ?_)
        · refine lv_iconst (v := (nI 0)) hx hb dX6_whyNotAdd_189 (by decide) ?_
          exact L190 false (by clear hret hw hl M hK hZ hx hb; simp only [false_eq_decide_iff]; simp only [costOf, Nat.reduceAdd]; omega) _ _ hw _ (lv_sub hl [1, 2, 3, 4, 5, 6, 7, 0] rfl)
        refine lv_iload hx hb dX6_whyNotAdd_159 (lv_at hl 6 rfl) ?_
        refine lv_iload_n hx hb dX6_whyNotAdd_161 rfl (lv_at hl 3 rfl) ?_
        refine lv_aload_n hx hb dX6_whyNotAdd_162 rfl (lv_at hl 1 rfl) ?_
        refine lv_bipush (v := (nI 11)) hx hb dX6_whyNotAdd_163 (by decide) ?_
        refine x_iald M hK hw 0 0 rfl rfl (by decide) (by decide) dX6_whyNotAdd_165 ?_
        refine x_topN (n := ρ 11) rfl ?_
        have q_33 : 1 ≤ ρ 11 := (hI.pri (q := 11) (k := 0) (by decide) rfl).1
        have q_34 : ρ 11 ≤ 99999 := (hI.pri (q := 11) (k := 0) (by decide) rfl).2
        refine x_imul M (n := x1 * (ρ 11)) dX6_whyNotAdd_166 rfl ?_
        have q_35 : x1 * (ρ 11) ≤ 899991 := Nat.le_trans (Nat.mul_le_mul (show x1 ≤ 9 by omega) (show ρ 11 ≤ 99999 by omega)) (by decide)
        refine lv_iload_n hx hb dX6_whyNotAdd_167 rfl (lv_at hl 4 rfl) ?_
        refine lv_aload_n hx hb dX6_whyNotAdd_168 rfl (lv_at hl 1 rfl) ?_
        refine lv_bipush (v := (nI 12)) hx hb dX6_whyNotAdd_169 (by decide) ?_
        refine x_iald M hK hw 0 0 rfl rfl (by decide) (by decide) dX6_whyNotAdd_171 ?_
        refine x_topN (n := ρ 12) rfl ?_
        have q_36 : 1 ≤ ρ 12 := (hI.pri (q := 12) (k := 1) (by decide) rfl).1
        have q_37 : ρ 12 ≤ 99999 := (hI.pri (q := 12) (k := 1) (by decide) rfl).2
        refine x_imul M (n := y1 * (ρ 12)) dX6_whyNotAdd_172 rfl ?_
        have q_38 : y1 * (ρ 12) ≤ 899991 := Nat.le_trans (Nat.mul_le_mul (show y1 ≤ 9 by omega) (show ρ 12 ≤ 99999 by omega)) (by decide)
        refine x_iadd M (n := (x1 * (ρ 11)) + (y1 * (ρ 12))) dX6_whyNotAdd_173 rfl ?_
        refine lv_iload hx hb dX6_whyNotAdd_174 (lv_at hl 5 rfl) ?_
        refine lv_aload_n hx hb dX6_whyNotAdd_176 rfl (lv_at hl 1 rfl) ?_
        refine lv_bipush (v := (nI 13)) hx hb dX6_whyNotAdd_177 (by decide) ?_
        refine x_iald M hK hw 0 0 rfl rfl (by decide) (by decide) dX6_whyNotAdd_179 ?_
        refine x_topN (n := ρ 13) rfl ?_
        have q_39 : 1 ≤ ρ 13 := (hI.pri (q := 13) (k := 2) (by decide) rfl).1
        have q_40 : ρ 13 ≤ 99999 := (hI.pri (q := 13) (k := 2) (by decide) rfl).2
        refine x_imul M (n := z1 * (ρ 13)) dX6_whyNotAdd_180 rfl ?_
        have q_41 : z1 * (ρ 13) ≤ 899991 := Nat.le_trans (Nat.mul_le_mul (show z1 ≤ 9 by omega) (show ρ 13 ≤ 99999 by omega)) (by decide)
        refine x_iadd M (n := (x1 * (ρ 11)) + (y1 * (ρ 12)) + (z1 * (ρ 13))) dX6_whyNotAdd_181 rfl ?_
        refine x_clt M (tgt := 189) (by omega) (by omega) dX6_whyNotAdd_182 (by decide) (fun c_42 => ?_) (fun c_42 => ?_)
        · refine lv_iconst (v := (nI 0)) hx hb dX6_whyNotAdd_189 (by decide) ?_
          exact L190 false (by clear hret hw hl M hK hZ hx hb; simp only [false_eq_decide_iff]; simp only [costOf, Nat.reduceAdd]; omega) _ _ hw _ (lv_sub hl [1, 2, 3, 4, 5, 6, 7, 0] rfl)
        refine lv_iconst (v := (nI 1)) hx hb dX6_whyNotAdd_185 (by decide) ?_
        refine lv_goto (tgt := 190) hx hb dX6_whyNotAdd_186 (by decide) ?_
        exact L190 true (by clear hret hw hl M hK hZ hx hb; simp only [true_eq_decide_iff]; simp only [costOf, Nat.reduceAdd]; omega) _ _ hw _ (lv_sub hl [1, 2, 3, 4, 5, 6, 7, 0] rfl)
      refine lv_iload_n hx hb dX6_whyNotAdd_72 rfl (lv_at hl 3 rfl) ?_
      refine lv_iload hx hb dX6_whyNotAdd_73 (lv_at hl 0 rfl) ?_
      refine lv_aload_n hx hb dX6_whyNotAdd_75 rfl (lv_at hl 1 rfl) ?_
      refine lv_iconst (v := (nI 5)) hx hb dX6_whyNotAdd_76 (by decide) ?_
      refine x_iald M hK hw 0 0 rfl rfl (by decide) (by decide) dX6_whyNotAdd_77 ?_
      refine x_topN (n := ρ 5) rfl ?_
      have q_43 : 1 ≤ ρ 5 := (hI.sup (q := 5) (k := 0) (by decide) rfl).1
      have q_44 : ρ 5 ≤ 9 := (hI.sup (q := 5) (k := 0) (by decide) rfl).2
      refine x_cSI (As := [.int (nI (ρ (15 + 21 * j))), .int (nI (ρ 5))]) (k_X6_less l G Y (ρ (15 + 21 * j)) (ρ 5) (by omega) (by omega)) cw_X6_61 [] M hK hZ hw hl.1 rfl (by decide) ⟨by decide, by decide⟩ ⟨Nat.zero_le _, Nat.zero_le _⟩ rfl rfl (Nat.le_of_ble_eq_true rfl) dX6_whyNotAdd_78 (fun r sg h_45 H locs hw => ?_)
      obtain ⟨rfl, rfl⟩ := h_45
      have hw : xW G A s.heap [[(a, .inl (Y 0, 140, .inl (rowF ρ)))]] H locs := hw
      refine x_cgt M (tgt := 124) (by omega) (by omega) dX6_whyNotAdd_81 (by decide) (fun c_46 => ?_) (fun c_46 => ?_)
      · refine lv_iconst (v := (nI 0)) hx hb dX6_whyNotAdd_124 (by decide) ?_
        exact L125 false (by clear hret hw hl M hK hZ hx hb; simp only [false_eq_decide_iff]; simp only [most, Nat.reduceAdd]; omega) _ _ hw _ (lv_sub hl [1, 2, 3, 4, 5, 6, 0] rfl)
      refine lv_iload_n hx hb dX6_whyNotAdd_84 rfl (lv_at hl 4 rfl) ?_
      refine lv_iload hx hb dX6_whyNotAdd_85 (lv_at hl 0 rfl) ?_
      refine lv_aload_n hx hb dX6_whyNotAdd_87 rfl (lv_at hl 1 rfl) ?_
      refine lv_bipush (v := (nI 6)) hx hb dX6_whyNotAdd_88 (by decide) ?_
      refine x_iald M hK hw 0 0 rfl rfl (by decide) (by decide) dX6_whyNotAdd_90 ?_
      refine x_topN (n := ρ 6) rfl ?_
      have q_47 : 1 ≤ ρ 6 := (hI.sup (q := 6) (k := 1) (by decide) rfl).1
      have q_48 : ρ 6 ≤ 9 := (hI.sup (q := 6) (k := 1) (by decide) rfl).2
      refine x_cSI (As := [.int (nI (ρ (15 + 21 * j))), .int (nI (ρ 6))]) (k_X6_less l G Y (ρ (15 + 21 * j)) (ρ 6) (by omega) (by omega)) cw_X6_61 [] M hK hZ hw hl.1 rfl (by decide) ⟨by decide, by decide⟩ ⟨Nat.zero_le _, Nat.zero_le _⟩ rfl rfl (Nat.le_of_ble_eq_true rfl) dX6_whyNotAdd_91 (fun r sg h_49 H locs hw => ?_)
      obtain ⟨rfl, rfl⟩ := h_49
      have hw : xW G A s.heap [[(a, .inl (Y 0, 140, .inl (rowF ρ)))]] H locs := hw
      refine x_cgt M (tgt := 124) (by omega) (by omega) dX6_whyNotAdd_94 (by decide) (fun c_50 => ?_) (fun c_50 => ?_)
      · refine lv_iconst (v := (nI 0)) hx hb dX6_whyNotAdd_124 (by decide) ?_
        exact L125 false (by clear hret hw hl M hK hZ hx hb; simp only [false_eq_decide_iff]; simp only [most, Nat.reduceAdd]; omega) _ _ hw _ (lv_sub hl [1, 2, 3, 4, 5, 6, 0] rfl)
      refine lv_iload hx hb dX6_whyNotAdd_97 (lv_at hl 5 rfl) ?_
      refine lv_iload hx hb dX6_whyNotAdd_99 (lv_at hl 0 rfl) ?_
      refine lv_aload_n hx hb dX6_whyNotAdd_101 rfl (lv_at hl 1 rfl) ?_
      refine lv_bipush (v := (nI 7)) hx hb dX6_whyNotAdd_102 (by decide) ?_
      refine x_iald M hK hw 0 0 rfl rfl (by decide) (by decide) dX6_whyNotAdd_104 ?_
      refine x_topN (n := ρ 7) rfl ?_
      have q_51 : 1 ≤ ρ 7 := (hI.sup (q := 7) (k := 2) (by decide) rfl).1
      have q_52 : ρ 7 ≤ 9 := (hI.sup (q := 7) (k := 2) (by decide) rfl).2
      refine x_cSI (As := [.int (nI (ρ (15 + 21 * j))), .int (nI (ρ 7))]) (k_X6_less l G Y (ρ (15 + 21 * j)) (ρ 7) (by omega) (by omega)) cw_X6_61 [] M hK hZ hw hl.1 rfl (by decide) ⟨by decide, by decide⟩ ⟨Nat.zero_le _, Nat.zero_le _⟩ rfl rfl (Nat.le_of_ble_eq_true rfl) dX6_whyNotAdd_105 (fun r sg h_53 H locs hw => ?_)
      obtain ⟨rfl, rfl⟩ := h_53
      have hw : xW G A s.heap [[(a, .inl (Y 0, 140, .inl (rowF ρ)))]] H locs := hw
      refine x_cgt M (tgt := 124) (by omega) (by omega) dX6_whyNotAdd_108 (by decide) (fun c_54 => ?_) (fun c_54 => ?_)
      · refine lv_iconst (v := (nI 0)) hx hb dX6_whyNotAdd_124 (by decide) ?_
        exact L125 false (by clear hret hw hl M hK hZ hx hb; simp only [false_eq_decide_iff]; simp only [most, Nat.reduceAdd]; omega) _ _ hw _ (lv_sub hl [1, 2, 3, 4, 5, 6, 0] rfl)
      refine lv_iload_n hx hb dX6_whyNotAdd_111 rfl (lv_at hl 3 rfl) ?_
      refine lv_iload_n hx hb dX6_whyNotAdd_112 rfl (lv_at hl 4 rfl) ?_
      refine x_iadd M (n := x1 + y1) dX6_whyNotAdd_113 rfl ?_
      refine lv_iload hx hb dX6_whyNotAdd_114 (lv_at hl 5 rfl) ?_
      refine x_iadd M (n := x1 + y1 + z1) dX6_whyNotAdd_116 rfl ?_
      refine x_zle M (tgt := 124) (by omega) dX6_whyNotAdd_117 (by decide) (fun c_55 => ?_) (fun c_55 => ?_)
      · refine lv_iconst (v := (nI 0)) hx hb dX6_whyNotAdd_124 (by decide) ?_
        exact L125 false (by clear hret hw hl M hK hZ hx hb; simp only [false_eq_decide_iff]; simp only [most, Nat.reduceAdd]; omega) _ _ hw _ (lv_sub hl [1, 2, 3, 4, 5, 6, 0] rfl)
      refine lv_iconst (v := (nI 1)) hx hb dX6_whyNotAdd_120 (by decide) ?_
      refine lv_goto (tgt := 125) hx hb dX6_whyNotAdd_121 (by decide) ?_
      exact L125 true (by clear hret hw hl M hK hZ hx hb; simp only [true_eq_decide_iff]; simp only [most, Nat.reduceAdd]; omega) _ _ hw _ (lv_sub hl [1, 2, 3, 4, 5, 6, 0] rfl)
    refine lv_iconst (v := (nI 2)) hx hb dX6_whyNotAdd_60 (by decide) ?_
    exact hret _ _ _ (nI 2) _ _ dX6_whyNotAdd_61 hw rfl rfl ⟨congrArg nI (by clear hret hw hl M hK hZ hx hb; unfold whyAdd; (first | rw [if_pos c_2] | rw [if_neg (Bool.eq_false_iff.mp c_2)] | rw [if_neg (nIn c_2)] | rw [if_pos (nOut c_2)] | rw [if_neg (by omega)] | rw [if_pos (by omega)]) <;> (first | rw [if_pos c_4] | rw [if_neg (Bool.eq_false_iff.mp c_4)] | rw [if_neg (nIn c_4)] | rw [if_pos (nOut c_4)] | rw [if_neg (by omega)] | rw [if_pos (by omega)]) <;> (first | rw [if_pos c_6] | rw [if_neg (Bool.eq_false_iff.mp c_6)] | rw [if_neg (nIn c_6)] | rw [if_pos (nOut c_6)] | rw [if_neg (by omega)] | rw [if_pos (by omega)]) <;> (first | rw [if_pos c_8] | rw [if_neg (Bool.eq_false_iff.mp c_8)] | rw [if_neg (nIn c_8)] | rw [if_pos (nOut c_8)] | rw [if_neg (by omega)] | rw [if_pos (by omega)]) <;> (first | rw [if_pos c_10] | rw [if_neg (Bool.eq_false_iff.mp c_10)] | rw [if_neg (nIn c_10)] | rw [if_pos (nOut c_10)] | rw [if_neg (by omega)] | rw [if_pos (by omega)])), rfl⟩
  refine lv_iconst (v := (nI 1)) hx hb dX6_whyNotAdd_8 (by decide) ?_
  exact hret _ _ _ (nI 1) _ _ dX6_whyNotAdd_9 hw rfl rfl ⟨congrArg nI (by clear hret hw hl M hK hZ hx hb; unfold whyAdd; (first | rw [if_pos c_2] | rw [if_neg (Bool.eq_false_iff.mp c_2)] | rw [if_neg (nIn c_2)] | rw [if_pos (nOut c_2)] | rw [if_neg (by omega)] | rw [if_pos (by omega)])), rfl⟩
set_option maxHeartbeats 4000000 in
set_option maxRecDepth 20000 in
theorem k_X6_canDrop (l : Launch) (G : va_G) (Y : Nat → Nat) (a : Nat) (ρ : Nat → Nat) (b i : Int32) (hI : Inv ρ) : CtI l yX6_canDrop cX6_canDrop 3 .boolean 2 46 [.ref a, .int b, .int i] [[(a, .inl (Y 0, 140, .inl (rowF ρ)))]] (fun r sg => r = b2i (canDr ρ b.toInt i.toInt) ∧ sg = [[(a, .inl (Y 0, 140, .inl (rowF ρ)))]]) G Y := by
  refine x_ofI (by decide) (Nat.le_of_ble_eq_true rfl) (fun p e s m args below meth c A ls Q M hK hZ hw hl hret => ?_)
  obtain ⟨hx, hb, -⟩ := id M
  have hl : lv_has ls 3 [(0, .ref a), (1, .int b), (2, .int i)] := hl
  have := hI.n6
  have := hI.over
  have := hI.keep
  have := hI.stepp
  refine lv_aload_n hx hb dX6_canDrop_0 rfl (lv_at hl 0 rfl) ?_
  refine lv_iload_n hx hb dX6_canDrop_1 rfl (lv_at hl 1 rfl) ?_
  refine x_cSI (As := [.ref a, .int b]) (k_X6_isBidder l G Y a ρ b (hI)) cw_X6_79 [0] M hK hZ hw hl.1 rfl (by decide) ⟨by decide, by decide⟩ ⟨Nat.zero_le _, Nat.zero_le _⟩ rfl rfl (Nat.le_of_ble_eq_true rfl) dX6_canDrop_2 (fun r sg h_1 H locs hw => ?_)
  obtain ⟨rfl, rfl⟩ := h_1
  have hw : xW G A s.heap [[(a, .inl (Y 0, 140, .inl (rowF ρ)))]] H locs := hw
  refine x_beq M (tgt := 31) dX6_canDrop_5 (by decide) (fun c_2 => ?_) (fun c_2 => ?_)
  · refine lv_iconst (v := (nI 0)) hx hb dX6_canDrop_31 (by decide) ?_
    exact hret _ _ _ (nI 0) _ _ dX6_canDrop_32 hw rfl rfl ⟨b2i_f (by clear hret hw hl M hK hZ hx hb; unfold canDr; rw [c_2]; rfl), rfl⟩
  obtain ⟨j, hj, rfl⟩ := nbt c_2
  have ej : (nI j).toInt.toNat = j := zt (by omega)
  refine lv_iload_n hx hb dX6_canDrop_8 rfl (lv_at hl 2 rfl) ?_
  refine lv_i2l (v := i.toInt64) hx hb dX6_canDrop_9 rfl ?_
  refine lv_lconst (v := 1) hx hb dX6_canDrop_10 (by decide) ?_
  refine lv_aload_n hx hb dX6_canDrop_11 rfl (lv_at hl 0 rfl) ?_
  refine lv_iload_n hx hb dX6_canDrop_12 rfl (lv_at hl 1 rfl) ?_
  refine x_cSI (As := [.int (nI j)]) (k_X6_at l G Y j) cw_X6_49 [] M hK hZ hw hl.1 rfl (by decide) ⟨by decide, by decide⟩ ⟨Nat.zero_le _, Nat.zero_le _⟩ rfl rfl (Nat.le_of_ble_eq_true rfl) dX6_canDrop_13 (fun r sg h_3 H locs hw => ?_)
  obtain ⟨rfl, rfl⟩ := h_3
  have hw : xW G A s.heap [[(a, .inl (Y 0, 140, .inl (rowF ρ)))]] H locs := hw
  refine lv_bipush (v := (nI 8)) hx hb dX6_canDrop_16 (by decide) ?_
  refine x_iadd M (n := 22 + 21 * j) dX6_canDrop_18 (by omega) ?_
  refine x_iald M hK hw 0 0 rfl rfl (by omega) (by decide) dX6_canDrop_19 ?_
  refine x_topN (n := ρ (22 + 21 * j)) rfl ?_
  have q_4 : ρ (22 + 21 * j) ≤ 3 := hI.pck (j := j) (by omega) (by omega)
  refine lv_i2l (v := (nI (ρ (22 + 21 * j))).toInt64) hx hb dX6_canDrop_20 rfl ?_
  refine x_cSI (As := [.long i.toInt64, .long 1, .long ((nI (ρ (22 + 21 * j))).toInt64)]) (k_X6_in l G Y i.toInt64 1 ((nI (ρ (22 + 21 * j))).toInt64)) cw_X6_45 [] M hK hZ hw hl.1 rfl (by decide) ⟨by decide, by decide⟩ ⟨Nat.zero_le _, Nat.zero_le _⟩ rfl rfl (Nat.le_of_ble_eq_true rfl) dX6_canDrop_21 (fun r sg h_5 H locs hw => ?_)
  obtain ⟨rfl, rfl⟩ := h_5
  have hw : xW G A s.heap [[(a, .inl (Y 0, 140, .inl (rowF ρ)))]] H locs := hw
  refine x_topI (y := b2i (inZ i.toInt 1 (ρ (22 + 21 * j) : Int))) (by rw [Int32.toInt_toInt64, Int32.toInt_toInt64, nI_toInt (n := ρ (22 + 21 * j)) (by omega)]; rfl) ?_
  refine x_beq M (tgt := 31) dX6_canDrop_24 (by decide) (fun c_6 => ?_) (fun c_6 => ?_)
  · refine lv_iconst (v := (nI 0)) hx hb dX6_canDrop_31 (by decide) ?_
    exact hret _ _ _ (nI 0) _ _ dX6_canDrop_32 hw rfl rfl ⟨b2i_f (by clear hret hw hl M hK hZ hx hb; unfold canDr; rw [ej, c_2, c_6]; rfl), rfl⟩
  refine lv_iconst (v := (nI 1)) hx hb dX6_canDrop_27 (by decide) ?_
  refine lv_goto (tgt := 32) hx hb dX6_canDrop_28 (by decide) ?_
  exact hret _ _ _ (nI 1) _ _ dX6_canDrop_32 hw rfl rfl ⟨b2i_t (by clear hret hw hl M hK hZ hx hb; unfold canDr; rw [ej, c_2, c_6]; rfl), rfl⟩
set_option maxHeartbeats 4000000 in
set_option maxRecDepth 20000 in
theorem k_X6_isSetting (l : Launch) (G : va_G) (Y : Nat → Nat) (w v : Int32)  : CtI l yX6_isSetting cX6_isSetting 2 .boolean 1 25 [.int w, .int v] [] (fun r sg => r = b2i (isSet w.toInt v.toInt) ∧ sg = []) G Y := by
  refine x_ofI (by decide) (Nat.le_of_ble_eq_true rfl) (fun p e s m args below meth c A ls Q M hK hZ hw hl hret => ?_)
  obtain ⟨hx, hb, -⟩ := id M
  have hl : lv_has ls 2 [(0, .int w), (1, .int v)] := hl
  refine lv_iload_n hx hb dX6_isSetting_0 rfl (lv_at hl 0 rfl) ?_
  refine lv_if_ne (tgt := 18) hx hb dX6_isSetting_1 (by decide) (fun c_1 => ?_) (fun c_1 => ?_)
  · refine lv_iload_n hx hb dX6_isSetting_18 rfl (lv_at hl 0 rfl) ?_
    refine lv_iconst (v := (nI 1)) hx hb dX6_isSetting_19 (by decide) ?_
    refine lv_icmp_ne (tgt := 39) hx hb dX6_isSetting_20 (by decide) (fun c_2 => ?_) (fun c_2 => ?_)
    · refine lv_iconst (v := (nI 0)) hx hb dX6_isSetting_39 (by decide) ?_
      rw [← Int32.toInt_inj] at c_1
      rw [← Int32.toInt_inj] at c_2
      rw [show (0 : Int32).toInt = 0 from rfl] at c_1
      rw [show (nI 1).toInt = 1 from rfl] at c_2
      exact hret _ _ _ (nI 0) _ _ dX6_isSetting_40 hw rfl rfl ⟨b2i_f (by clear hret hw hl M hK hZ hx hb; unfold isSet; first | (simp [c_1, c_2]; done) | (exfalso; omega)), rfl⟩
    refine lv_iload_n hx hb dX6_isSetting_23 rfl (lv_at hl 1 rfl) ?_
    refine lv_i2l (v := v.toInt64) hx hb dX6_isSetting_24 rfl ?_
    refine lv_lconst (v := 1) hx hb dX6_isSetting_25 (by decide) ?_
    refine lv_ldc2 (v := 50) hx hb M.2.2.2.1 (M.2.2.2.2 _ mw_1235) dX6_isSetting_26 ?_
    refine x_cSI (As := [.long v.toInt64, .long 1, .long 50]) (k_X6_in l G Y v.toInt64 1 50) cw_X6_45 [] M hK hZ hw hl.1 rfl (by decide) ⟨by decide, by decide⟩ ⟨Nat.zero_le _, Nat.zero_le _⟩ rfl rfl (Nat.le_of_ble_eq_true rfl) dX6_isSetting_29 (fun r sg h_3 H locs hw => ?_)
    obtain ⟨rfl, rfl⟩ := h_3
    have hw : xW G A s.heap [] H locs := hw
    refine x_topI (y := b2i (inZ v.toInt 1 50)) (by rw [Int32.toInt_toInt64]; rfl) ?_
    refine x_beq M (tgt := 39) dX6_isSetting_32 (by decide) (fun c_4 => ?_) (fun c_4 => ?_)
    · refine lv_iconst (v := (nI 0)) hx hb dX6_isSetting_39 (by decide) ?_
      rw [← Int32.toInt_inj] at c_1
      rw [← Int32.toInt_inj] at c_2
      rw [show (0 : Int32).toInt = 0 from rfl] at c_1
      rw [show (nI 1).toInt = 1 from rfl] at c_2
      exact hret _ _ _ (nI 0) _ _ dX6_isSetting_40 hw rfl rfl ⟨b2i_f (by clear hret hw hl M hK hZ hx hb; unfold isSet; first | (simp [c_1, c_2, c_4]; done) | (exfalso; omega)), rfl⟩
    refine lv_iconst (v := (nI 1)) hx hb dX6_isSetting_35 (by decide) ?_
    refine lv_goto (tgt := 40) hx hb dX6_isSetting_36 (by decide) ?_
    rw [← Int32.toInt_inj] at c_1
    rw [← Int32.toInt_inj] at c_2
    rw [show (0 : Int32).toInt = 0 from rfl] at c_1
    rw [show (nI 1).toInt = 1 from rfl] at c_2
    exact hret _ _ _ (nI 1) _ _ dX6_isSetting_40 hw rfl rfl ⟨b2i_t (by clear hret hw hl M hK hZ hx hb; unfold isSet; first | (simp [c_1, c_2, c_4]; done) | (exfalso; omega)), rfl⟩
  refine lv_iload_n hx hb dX6_isSetting_4 rfl (lv_at hl 1 rfl) ?_
  refine lv_i2l (v := v.toInt64) hx hb dX6_isSetting_5 rfl ?_
  refine lv_ldc2 (v := 50) hx hb M.2.2.2.1 (M.2.2.2.2 _ mw_1235) dX6_isSetting_6 ?_
  refine lv_ldc2 (v := 100) hx hb M.2.2.2.1 (M.2.2.2.2 _ mw_1236) dX6_isSetting_9 ?_
  refine x_cSI (As := [.long v.toInt64, .long 50, .long 100]) (k_X6_in l G Y v.toInt64 50 100) cw_X6_45 [] M hK hZ hw hl.1 rfl (by decide) ⟨by decide, by decide⟩ ⟨Nat.zero_le _, Nat.zero_le _⟩ rfl rfl (Nat.le_of_ble_eq_true rfl) dX6_isSetting_12 (fun r sg h_5 H locs hw => ?_)
  obtain ⟨rfl, rfl⟩ := h_5
  have hw : xW G A s.heap [] H locs := hw
  refine x_topI (y := b2i (inZ v.toInt 50 100)) (by rw [Int32.toInt_toInt64]; rfl) ?_
  refine x_bne M (tgt := 35) dX6_isSetting_15 (by decide) (fun c_6 => ?_) (fun c_6 => ?_)
  · refine lv_iconst (v := (nI 1)) hx hb dX6_isSetting_35 (by decide) ?_
    refine lv_goto (tgt := 40) hx hb dX6_isSetting_36 (by decide) ?_
    rw [← Int32.toInt_inj] at c_1
    rw [show (0 : Int32).toInt = 0 from rfl] at c_1
    exact hret _ _ _ (nI 1) _ _ dX6_isSetting_40 hw rfl rfl ⟨b2i_t (by clear hret hw hl M hK hZ hx hb; unfold isSet; first | (simp [c_1, c_6]; done) | (exfalso; omega)), rfl⟩
  refine lv_iload_n hx hb dX6_isSetting_18 rfl (lv_at hl 0 rfl) ?_
  refine lv_iconst (v := (nI 1)) hx hb dX6_isSetting_19 (by decide) ?_
  refine lv_icmp_ne (tgt := 39) hx hb dX6_isSetting_20 (by decide) (fun c_7 => ?_) (fun c_7 => ?_)
  · refine lv_iconst (v := (nI 0)) hx hb dX6_isSetting_39 (by decide) ?_
    rw [← Int32.toInt_inj] at c_1
    rw [← Int32.toInt_inj] at c_7
    rw [show (0 : Int32).toInt = 0 from rfl] at c_1
    rw [show (nI 1).toInt = 1 from rfl] at c_7
    exact hret _ _ _ (nI 0) _ _ dX6_isSetting_40 hw rfl rfl ⟨b2i_f (by clear hret hw hl M hK hZ hx hb; unfold isSet; first | (simp [c_1, c_6, c_7]; done) | (exfalso; omega)), rfl⟩
  refine lv_iload_n hx hb dX6_isSetting_23 rfl (lv_at hl 1 rfl) ?_
  refine lv_i2l (v := v.toInt64) hx hb dX6_isSetting_24 rfl ?_
  refine lv_lconst (v := 1) hx hb dX6_isSetting_25 (by decide) ?_
  refine lv_ldc2 (v := 50) hx hb M.2.2.2.1 (M.2.2.2.2 _ mw_1235) dX6_isSetting_26 ?_
  refine x_cSI (As := [.long v.toInt64, .long 1, .long 50]) (k_X6_in l G Y v.toInt64 1 50) cw_X6_45 [] M hK hZ hw hl.1 rfl (by decide) ⟨by decide, by decide⟩ ⟨Nat.zero_le _, Nat.zero_le _⟩ rfl rfl (Nat.le_of_ble_eq_true rfl) dX6_isSetting_29 (fun r sg h_8 H locs hw => ?_)
  obtain ⟨rfl, rfl⟩ := h_8
  have hw : xW G A s.heap [] H locs := hw
  refine x_topI (y := b2i (inZ v.toInt 1 50)) (by rw [Int32.toInt_toInt64]; rfl) ?_
  refine x_beq M (tgt := 39) dX6_isSetting_32 (by decide) (fun c_9 => ?_) (fun c_9 => ?_)
  · refine lv_iconst (v := (nI 0)) hx hb dX6_isSetting_39 (by decide) ?_
    rw [← Int32.toInt_inj] at c_1
    rw [← Int32.toInt_inj] at c_7
    rw [show (0 : Int32).toInt = 0 from rfl] at c_1
    rw [show (nI 1).toInt = 1 from rfl] at c_7
    exact hret _ _ _ (nI 0) _ _ dX6_isSetting_40 hw rfl rfl ⟨b2i_f (by clear hret hw hl M hK hZ hx hb; unfold isSet; first | (simp [c_1, c_6, c_7, c_9]; done) | (exfalso; omega)), rfl⟩
  refine lv_iconst (v := (nI 1)) hx hb dX6_isSetting_35 (by decide) ?_
  refine lv_goto (tgt := 40) hx hb dX6_isSetting_36 (by decide) ?_
  rw [← Int32.toInt_inj] at c_1
  rw [← Int32.toInt_inj] at c_7
  rw [show (0 : Int32).toInt = 0 from rfl] at c_1
  rw [show (nI 1).toInt = 1 from rfl] at c_7
  exact hret _ _ _ (nI 1) _ _ dX6_isSetting_40 hw rfl rfl ⟨b2i_t (by clear hret hw hl M hK hZ hx hb; unfold isSet; first | (simp [c_1, c_6, c_7, c_9]; done) | (exfalso; omega)), rfl⟩
