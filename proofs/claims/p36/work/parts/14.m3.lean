set_option maxHeartbeats 4000000 in
set_option maxRecDepth 20000 in
theorem k_X1_whyNotOffer (l : Launch) (G : va_G) (Y : Nat → Nat) (h : Nat) (ρ : Nat → Nat) (γ : Nat → Nat → Nat) (k u v : Int32) (hI : Inv ρ) : CtI l yX1_whyNotOffer cX1_whyNotOffer 4 .int 2 42 [.ref h, .int k, .int u, .int v] [aucW Y h ρ γ] (fun r sg => r = nI (whyOffer ρ k.toInt u.toInt v.toInt) ∧ sg = [aucW Y h ρ γ]) G Y := by
  refine x_ofI (by decide) (Nat.le_of_ble_eq_true rfl) (fun p e s m args below meth c A ls Q M hK hZ hw hl hret => ?_)
  obtain ⟨hx, hb, -⟩ := id M
  have hl : lv_has ls 4 [(0, .ref h), (1, .int k), (2, .int u), (3, .int v)] := hl
  have := hI.n6
  have := hI.over
  have := hI.keep
  have := hI.stepp
  refine lv_iload_n hx hb dX1_whyNotOffer_0 rfl (lv_at hl 1 rfl) ?_
  refine x_cNI (As := [.int k]) (k_X5_noKind l G Y k) cw_X1_95 [] M hK hZ hw hl.1 rfl (by decide) ⟨by decide, by decide⟩ ⟨Nat.zero_le _, Nat.zero_le _⟩ rfl rfl (Nat.le_of_ble_eq_true rfl) dX1_whyNotOffer_1 (fun r sg h_1 H locs hw => ?_)
  obtain ⟨rfl, rfl⟩ := h_1
  have hw : xW G A s.heap [aucW Y h ρ γ] H locs := hw
  refine x_beq M (tgt := 9) dX1_whyNotOffer_4 (by decide) (fun c_2 => ?_) (fun c_2 => ?_)
  · refine lv_iload_n hx hb dX1_whyNotOffer_9 rfl (lv_at hl 2 rfl) ?_
    refine lv_iconst (v := (nI 1)) hx hb dX1_whyNotOffer_10 (by decide) ?_
    refine lv_bipush (v := (nI 9)) hx hb dX1_whyNotOffer_11 (by decide) ?_
    refine x_cNI (As := [.int u, .int (nI 1), .int (nI 9)]) (k_X5_outside l G Y u (nI 1) (nI 9)) cw_X1_68 [] M hK hZ hw hl.1 rfl (by decide) ⟨by decide, by decide⟩ ⟨Nat.zero_le _, Nat.zero_le _⟩ rfl rfl (Nat.le_of_ble_eq_true rfl) dX1_whyNotOffer_13 (fun r sg h_3 H locs hw => ?_)
    obtain ⟨rfl, rfl⟩ := h_3
    have hw : xW G A s.heap [aucW Y h ρ γ] H locs := hw
    refine x_topI (y := b2i (!inZ u.toInt 1 9)) rfl ?_
    refine x_bne M (tgt := 29) dX1_whyNotOffer_16 (by decide) (fun c_4 => ?_) (fun c_4 => ?_)
    · refine lv_iconst (v := (nI 2)) hx hb dX1_whyNotOffer_29 (by decide) ?_
      exact hret _ _ _ (nI 2) _ _ dX1_whyNotOffer_30 hw rfl rfl ⟨congrArg nI (by clear hret hw hl M hK hZ hx hb; unfold whyOffer; (first | rw [if_pos c_2] | rw [if_neg (Bool.eq_false_iff.mp c_2)] | rw [if_neg (by omega)] | rw [if_pos (by omega)]) <;> (first | rw [if_pos c_4] | rw [if_neg (Bool.eq_false_iff.mp c_4)] | rw [if_neg (by omega)] | rw [if_pos (by omega)])), rfl⟩
    refine lv_iload_n hx hb dX1_whyNotOffer_19 rfl (lv_at hl 3 rfl) ?_
    refine lv_iconst (v := (nI 1)) hx hb dX1_whyNotOffer_20 (by decide) ?_
    refine lv_bipush (v := (nI 9)) hx hb dX1_whyNotOffer_21 (by decide) ?_
    refine x_cNI (As := [.int v, .int (nI 1), .int (nI 9)]) (k_X5_outside l G Y v (nI 1) (nI 9)) cw_X1_68 [] M hK hZ hw hl.1 rfl (by decide) ⟨by decide, by decide⟩ ⟨Nat.zero_le _, Nat.zero_le _⟩ rfl rfl (Nat.le_of_ble_eq_true rfl) dX1_whyNotOffer_23 (fun r sg h_5 H locs hw => ?_)
    obtain ⟨rfl, rfl⟩ := h_5
    have hw : xW G A s.heap [aucW Y h ρ γ] H locs := hw
    refine x_topI (y := b2i (!inZ v.toInt 1 9)) rfl ?_
    refine x_beq M (tgt := 31) dX1_whyNotOffer_26 (by decide) (fun c_6 => ?_) (fun c_6 => ?_)
    · refine lv_aload_n hx hb dX1_whyNotOffer_31 rfl (lv_at hl 0 rfl) ?_
      refine x_get M hK hw 0 0 rfl rfl ff_X1_49 rfl dX1_whyNotOffer_32 ?_
      refine lv_if_gt (tgt := 45) hx hb dX1_whyNotOffer_35 (by decide) (fun c_7 => ?_) (fun c_7 => ?_)
      · have c_7 := startI_gt c_7
        refine lv_iconst (v := (nI 3)) hx hb dX1_whyNotOffer_45 (by decide) ?_
        refine lv_goto (tgt := 50) hx hb dX1_whyNotOffer_46 (by decide) ?_
        exact hret _ _ _ (nI 3) _ _ dX1_whyNotOffer_50 hw rfl rfl ⟨congrArg nI (by clear hret hw hl M hK hZ hx hb; unfold whyOffer; (first | rw [if_pos c_2] | rw [if_neg (Bool.eq_false_iff.mp c_2)] | rw [if_neg (by omega)] | rw [if_pos (by omega)]) <;> (first | rw [if_pos c_4] | rw [if_neg (Bool.eq_false_iff.mp c_4)] | rw [if_neg (by omega)] | rw [if_pos (by omega)]) <;> (first | rw [if_pos c_6] | rw [if_neg (Bool.eq_false_iff.mp c_6)] | rw [if_neg (by omega)] | rw [if_pos (by omega)]) <;> (first | rw [if_pos c_7] | rw [if_neg (Bool.eq_false_iff.mp c_7)] | rw [if_neg (by omega)] | rw [if_pos (by omega)])), rfl⟩
      have c_7 := startN_gt c_7
      refine lv_aload_n hx hb dX1_whyNotOffer_38 rfl (lv_at hl 0 rfl) ?_
      refine x_get M hK hw 0 0 rfl rfl ff_X1_45 rfl dX1_whyNotOffer_39 ?_
      refine x_zle M (tgt := 49) (by omega) dX1_whyNotOffer_42 (by decide) (fun c_8 => ?_) (fun c_8 => ?_)
      · refine lv_iconst (v := (nI 0)) hx hb dX1_whyNotOffer_49 (by decide) ?_
        exact hret _ _ _ (nI 0) _ _ dX1_whyNotOffer_50 hw rfl rfl ⟨congrArg nI (by clear hret hw hl M hK hZ hx hb; unfold whyOffer; (first | rw [if_pos c_2] | rw [if_neg (Bool.eq_false_iff.mp c_2)] | rw [if_neg (by omega)] | rw [if_pos (by omega)]) <;> (first | rw [if_pos c_4] | rw [if_neg (Bool.eq_false_iff.mp c_4)] | rw [if_neg (by omega)] | rw [if_pos (by omega)]) <;> (first | rw [if_pos c_6] | rw [if_neg (Bool.eq_false_iff.mp c_6)] | rw [if_neg (by omega)] | rw [if_pos (by omega)]) <;> (first | rw [if_pos c_7] | rw [if_neg (Bool.eq_false_iff.mp c_7)] | rw [if_neg (by omega)] | rw [if_pos (by omega)]) <;> (first | rw [if_pos c_8] | rw [if_neg (Bool.eq_false_iff.mp c_8)] | rw [if_neg (by omega)] | rw [if_pos (by omega)])), rfl⟩
      refine lv_iconst (v := (nI 3)) hx hb dX1_whyNotOffer_45 (by decide) ?_
      refine lv_goto (tgt := 50) hx hb dX1_whyNotOffer_46 (by decide) ?_
      exact hret _ _ _ (nI 3) _ _ dX1_whyNotOffer_50 hw rfl rfl ⟨congrArg nI (by clear hret hw hl M hK hZ hx hb; unfold whyOffer; (first | rw [if_pos c_2] | rw [if_neg (Bool.eq_false_iff.mp c_2)] | rw [if_neg (by omega)] | rw [if_pos (by omega)]) <;> (first | rw [if_pos c_4] | rw [if_neg (Bool.eq_false_iff.mp c_4)] | rw [if_neg (by omega)] | rw [if_pos (by omega)]) <;> (first | rw [if_pos c_6] | rw [if_neg (Bool.eq_false_iff.mp c_6)] | rw [if_neg (by omega)] | rw [if_pos (by omega)]) <;> (first | rw [if_pos c_7] | rw [if_neg (Bool.eq_false_iff.mp c_7)] | rw [if_neg (by omega)] | rw [if_pos (by omega)]) <;> (first | rw [if_pos c_8] | rw [if_neg (Bool.eq_false_iff.mp c_8)] | rw [if_neg (by omega)] | rw [if_pos (by omega)])), rfl⟩
    refine lv_iconst (v := (nI 2)) hx hb dX1_whyNotOffer_29 (by decide) ?_
    exact hret _ _ _ (nI 2) _ _ dX1_whyNotOffer_30 hw rfl rfl ⟨congrArg nI (by clear hret hw hl M hK hZ hx hb; unfold whyOffer; (first | rw [if_pos c_2] | rw [if_neg (Bool.eq_false_iff.mp c_2)] | rw [if_neg (by omega)] | rw [if_pos (by omega)]) <;> (first | rw [if_pos c_4] | rw [if_neg (Bool.eq_false_iff.mp c_4)] | rw [if_neg (by omega)] | rw [if_pos (by omega)]) <;> (first | rw [if_pos c_6] | rw [if_neg (Bool.eq_false_iff.mp c_6)] | rw [if_neg (by omega)] | rw [if_pos (by omega)])), rfl⟩
  refine lv_iconst (v := (nI 1)) hx hb dX1_whyNotOffer_7 (by decide) ?_
  exact hret _ _ _ (nI 1) _ _ dX1_whyNotOffer_8 hw rfl rfl ⟨congrArg nI (by clear hret hw hl M hK hZ hx hb; unfold whyOffer; (first | rw [if_pos c_2] | rw [if_neg (Bool.eq_false_iff.mp c_2)] | rw [if_neg (by omega)] | rw [if_pos (by omega)])), rfl⟩
set_option maxHeartbeats 4000000 in
set_option maxRecDepth 20000 in
theorem k_X1_whyNotPrice (l : Launch) (G : va_G) (Y : Nat → Nat) (h : Nat) (ρ : Nat → Nat) (γ : Nat → Nat → Nat) (k v : Int32) (hI : Inv ρ) : CtI l yX1_whyNotPrice cX1_whyNotPrice 3 .int 2 42 [.ref h, .int k, .int v] [aucW Y h ρ γ] (fun r sg => r = nI (whyPrice ρ k.toInt v.toInt) ∧ sg = [aucW Y h ρ γ]) G Y := by
  refine x_ofI (by decide) (Nat.le_of_ble_eq_true rfl) (fun p e s m args below meth c A ls Q M hK hZ hw hl hret => ?_)
  obtain ⟨hx, hb, -⟩ := id M
  have hl : lv_has ls 3 [(0, .ref h), (1, .int k), (2, .int v)] := hl
  have := hI.n6
  have := hI.over
  have := hI.keep
  have := hI.stepp
  refine lv_iload_n hx hb dX1_whyNotPrice_0 rfl (lv_at hl 1 rfl) ?_
  refine x_cNI (As := [.int k]) (k_X5_noKind l G Y k) cw_X1_95 [] M hK hZ hw hl.1 rfl (by decide) ⟨by decide, by decide⟩ ⟨Nat.zero_le _, Nat.zero_le _⟩ rfl rfl (Nat.le_of_ble_eq_true rfl) dX1_whyNotPrice_1 (fun r sg h_1 H locs hw => ?_)
  obtain ⟨rfl, rfl⟩ := h_1
  have hw : xW G A s.heap [aucW Y h ρ γ] H locs := hw
  refine x_beq M (tgt := 9) dX1_whyNotPrice_4 (by decide) (fun c_2 => ?_) (fun c_2 => ?_)
  · refine lv_iload_n hx hb dX1_whyNotPrice_9 rfl (lv_at hl 2 rfl) ?_
    refine lv_iconst (v := (nI 1)) hx hb dX1_whyNotPrice_10 (by decide) ?_
    refine lv_ldc (v := (nI 99999)) hx hb M.2.2.2.1 (M.2.2.2.2 _ mw_349) dX1_whyNotPrice_11 ?_
    refine x_cNI (As := [.int v, .int (nI 1), .int (nI 99999)]) (k_X5_outside l G Y v (nI 1) (nI 99999)) cw_X1_68 [] M hK hZ hw hl.1 rfl (by decide) ⟨by decide, by decide⟩ ⟨Nat.zero_le _, Nat.zero_le _⟩ rfl rfl (Nat.le_of_ble_eq_true rfl) dX1_whyNotPrice_13 (fun r sg h_3 H locs hw => ?_)
    obtain ⟨rfl, rfl⟩ := h_3
    have hw : xW G A s.heap [aucW Y h ρ γ] H locs := hw
    refine x_topI (y := b2i (!inZ v.toInt 1 99999)) rfl ?_
    refine x_beq M (tgt := 21) dX1_whyNotPrice_16 (by decide) (fun c_4 => ?_) (fun c_4 => ?_)
    · refine lv_aload_n hx hb dX1_whyNotPrice_21 rfl (lv_at hl 0 rfl) ?_
      refine x_get M hK hw 0 0 rfl rfl ff_X1_49 rfl dX1_whyNotPrice_22 ?_
      refine lv_if_le (tgt := 32) hx hb dX1_whyNotPrice_25 (by decide) (fun c_5 => ?_) (fun c_5 => ?_)
      · have c_5 := startI_le c_5
        refine lv_iconst (v := (nI 0)) hx hb dX1_whyNotPrice_32 (by decide) ?_
        exact hret _ _ _ (nI 0) _ _ dX1_whyNotPrice_33 hw rfl rfl ⟨congrArg nI (by clear hret hw hl M hK hZ hx hb; unfold whyPrice; (first | rw [if_pos c_2] | rw [if_neg (Bool.eq_false_iff.mp c_2)] | rw [if_neg (by omega)] | rw [if_pos (by omega)]) <;> (first | rw [if_pos c_4] | rw [if_neg (Bool.eq_false_iff.mp c_4)] | rw [if_neg (by omega)] | rw [if_pos (by omega)]) <;> (first | rw [if_pos c_5] | rw [if_neg (Bool.eq_false_iff.mp c_5)] | rw [if_neg (by omega)] | rw [if_pos (by omega)])), rfl⟩
      have c_5 := startN_le c_5
      refine lv_iconst (v := (nI 3)) hx hb dX1_whyNotPrice_28 (by decide) ?_
      refine lv_goto (tgt := 33) hx hb dX1_whyNotPrice_29 (by decide) ?_
      exact hret _ _ _ (nI 3) _ _ dX1_whyNotPrice_33 hw rfl rfl ⟨congrArg nI (by clear hret hw hl M hK hZ hx hb; unfold whyPrice; (first | rw [if_pos c_2] | rw [if_neg (Bool.eq_false_iff.mp c_2)] | rw [if_neg (by omega)] | rw [if_pos (by omega)]) <;> (first | rw [if_pos c_4] | rw [if_neg (Bool.eq_false_iff.mp c_4)] | rw [if_neg (by omega)] | rw [if_pos (by omega)]) <;> (first | rw [if_pos c_5] | rw [if_neg (Bool.eq_false_iff.mp c_5)] | rw [if_neg (by omega)] | rw [if_pos (by omega)])), rfl⟩
    refine lv_iconst (v := (nI 2)) hx hb dX1_whyNotPrice_19 (by decide) ?_
    exact hret _ _ _ (nI 2) _ _ dX1_whyNotPrice_20 hw rfl rfl ⟨congrArg nI (by clear hret hw hl M hK hZ hx hb; unfold whyPrice; (first | rw [if_pos c_2] | rw [if_neg (Bool.eq_false_iff.mp c_2)] | rw [if_neg (by omega)] | rw [if_pos (by omega)]) <;> (first | rw [if_pos c_4] | rw [if_neg (Bool.eq_false_iff.mp c_4)] | rw [if_neg (by omega)] | rw [if_pos (by omega)])), rfl⟩
  refine lv_iconst (v := (nI 1)) hx hb dX1_whyNotPrice_7 (by decide) ?_
  exact hret _ _ _ (nI 1) _ _ dX1_whyNotPrice_8 hw rfl rfl ⟨congrArg nI (by clear hret hw hl M hK hZ hx hb; unfold whyPrice; (first | rw [if_pos c_2] | rw [if_neg (Bool.eq_false_iff.mp c_2)] | rw [if_neg (by omega)] | rw [if_pos (by omega)])), rfl⟩
set_option maxHeartbeats 4000000 in
set_option maxRecDepth 20000 in
theorem k_X1_whyNotJoin (l : Launch) (G : va_G) (Y : Nat → Nat) (h : Nat) (ρ : Nat → Nat) (γ : Nat → Nat → Nat) (u v : Int32) (hI : Inv ρ) : CtI l yX1_whyNotJoin cX1_whyNotJoin 3 .int 1 22 [.ref h, .int u, .int v] [aucW Y h ρ γ] (fun r sg => r = nI (whyJoin ρ u.toInt v.toInt) ∧ sg = [aucW Y h ρ γ]) G Y := by
  refine x_ofI (by decide) (Nat.le_of_ble_eq_true rfl) (fun p e s m args below meth c A ls Q M hK hZ hw hl hret => ?_)
  obtain ⟨hx, hb, -⟩ := id M
  have hl : lv_has ls 3 [(0, .ref h), (1, .int u), (2, .int v)] := hl
  have := hI.n6
  have := hI.over
  have := hI.keep
  have := hI.stepp
  refine lv_iload_n hx hb dX1_whyNotJoin_0 rfl (lv_at hl 1 rfl) ?_
  refine lv_iconst (v := (nI 0)) hx hb dX1_whyNotJoin_1 (by decide) ?_
  refine lv_bipush (v := (nI 99)) hx hb dX1_whyNotJoin_2 (by decide) ?_
  refine x_cNI (As := [.int u, .int (nI 0), .int (nI 99)]) (k_X5_outside l G Y u (nI 0) (nI 99)) cw_X1_68 [] M hK hZ hw hl.1 rfl (by decide) ⟨by decide, by decide⟩ ⟨Nat.zero_le _, Nat.zero_le _⟩ rfl rfl (Nat.le_of_ble_eq_true rfl) dX1_whyNotJoin_4 (fun r sg h_1 H locs hw => ?_)
  obtain ⟨rfl, rfl⟩ := h_1
  have hw : xW G A s.heap [aucW Y h ρ γ] H locs := hw
  refine x_topI (y := b2i (!inZ u.toInt 0 99)) rfl ?_
  refine x_bne M (tgt := 20) dX1_whyNotJoin_7 (by decide) (fun c_2 => ?_) (fun c_2 => ?_)
  · refine lv_iconst (v := (nI 2)) hx hb dX1_whyNotJoin_20 (by decide) ?_
    exact hret _ _ _ (nI 2) _ _ dX1_whyNotJoin_21 hw rfl rfl ⟨congrArg nI (by clear hret hw hl M hK hZ hx hb; unfold whyJoin; (first | rw [if_pos c_2] | rw [if_neg (Bool.eq_false_iff.mp c_2)] | rw [if_neg (by omega)] | rw [if_pos (by omega)])), rfl⟩
  refine lv_iload_n hx hb dX1_whyNotJoin_10 rfl (lv_at hl 2 rfl) ?_
  refine lv_iconst (v := (nI 1)) hx hb dX1_whyNotJoin_11 (by decide) ?_
  refine lv_bipush (v := (nI 9)) hx hb dX1_whyNotJoin_12 (by decide) ?_
  refine x_cNI (As := [.int v, .int (nI 1), .int (nI 9)]) (k_X5_outside l G Y v (nI 1) (nI 9)) cw_X1_68 [] M hK hZ hw hl.1 rfl (by decide) ⟨by decide, by decide⟩ ⟨Nat.zero_le _, Nat.zero_le _⟩ rfl rfl (Nat.le_of_ble_eq_true rfl) dX1_whyNotJoin_14 (fun r sg h_3 H locs hw => ?_)
  obtain ⟨rfl, rfl⟩ := h_3
  have hw : xW G A s.heap [aucW Y h ρ γ] H locs := hw
  refine x_topI (y := b2i (!inZ v.toInt 1 9)) rfl ?_
  refine x_beq M (tgt := 22) dX1_whyNotJoin_17 (by decide) (fun c_4 => ?_) (fun c_4 => ?_)
  · refine lv_aload_n hx hb dX1_whyNotJoin_22 rfl (lv_at hl 0 rfl) ?_
    refine x_get M hK hw 0 0 rfl rfl ff_X1_45 rfl dX1_whyNotJoin_23 ?_
    refine lv_bipush (v := (nI 6)) hx hb dX1_whyNotJoin_26 (by decide) ?_
    refine x_cge M (tgt := 38) (by omega) (by decide) dX1_whyNotJoin_28 (by decide) (fun c_5 => ?_) (fun c_5 => ?_)
    · refine lv_iconst (v := (nI 3)) hx hb dX1_whyNotJoin_38 (by decide) ?_
      refine lv_goto (tgt := 43) hx hb dX1_whyNotJoin_39 (by decide) ?_
      exact hret _ _ _ (nI 3) _ _ dX1_whyNotJoin_43 hw rfl rfl ⟨congrArg nI (by clear hret hw hl M hK hZ hx hb; unfold whyJoin; (first | rw [if_pos c_2] | rw [if_neg (Bool.eq_false_iff.mp c_2)] | rw [if_neg (by omega)] | rw [if_pos (by omega)]) <;> (first | rw [if_pos c_4] | rw [if_neg (Bool.eq_false_iff.mp c_4)] | rw [if_neg (by omega)] | rw [if_pos (by omega)]) <;> (first | rw [if_pos c_5] | rw [if_neg (Bool.eq_false_iff.mp c_5)] | rw [if_neg (by omega)] | rw [if_pos (by omega)])), rfl⟩
    refine lv_aload_n hx hb dX1_whyNotJoin_31 rfl (lv_at hl 0 rfl) ?_
    refine x_get M hK hw 0 0 rfl rfl ff_X1_49 rfl dX1_whyNotJoin_32 ?_
    refine lv_if_le (tgt := 42) hx hb dX1_whyNotJoin_35 (by decide) (fun c_6 => ?_) (fun c_6 => ?_)
    · have c_6 := startI_le c_6
      refine lv_iconst (v := (nI 0)) hx hb dX1_whyNotJoin_42 (by decide) ?_
      exact hret _ _ _ (nI 0) _ _ dX1_whyNotJoin_43 hw rfl rfl ⟨congrArg nI (by clear hret hw hl M hK hZ hx hb; unfold whyJoin; (first | rw [if_pos c_2] | rw [if_neg (Bool.eq_false_iff.mp c_2)] | rw [if_neg (by omega)] | rw [if_pos (by omega)]) <;> (first | rw [if_pos c_4] | rw [if_neg (Bool.eq_false_iff.mp c_4)] | rw [if_neg (by omega)] | rw [if_pos (by omega)]) <;> (first | rw [if_pos c_5] | rw [if_neg (Bool.eq_false_iff.mp c_5)] | rw [if_neg (by omega)] | rw [if_pos (by omega)]) <;> (first | rw [if_pos c_6] | rw [if_neg (Bool.eq_false_iff.mp c_6)] | rw [if_neg (by omega)] | rw [if_pos (by omega)])), rfl⟩
    have c_6 := startN_le c_6
    refine lv_iconst (v := (nI 3)) hx hb dX1_whyNotJoin_38 (by decide) ?_
    refine lv_goto (tgt := 43) hx hb dX1_whyNotJoin_39 (by decide) ?_
    exact hret _ _ _ (nI 3) _ _ dX1_whyNotJoin_43 hw rfl rfl ⟨congrArg nI (by clear hret hw hl M hK hZ hx hb; unfold whyJoin; (first | rw [if_pos c_2] | rw [if_neg (Bool.eq_false_iff.mp c_2)] | rw [if_neg (by omega)] | rw [if_pos (by omega)]) <;> (first | rw [if_pos c_4] | rw [if_neg (Bool.eq_false_iff.mp c_4)] | rw [if_neg (by omega)] | rw [if_pos (by omega)]) <;> (first | rw [if_pos c_5] | rw [if_neg (Bool.eq_false_iff.mp c_5)] | rw [if_neg (by omega)] | rw [if_pos (by omega)]) <;> (first | rw [if_pos c_6] | rw [if_neg (Bool.eq_false_iff.mp c_6)] | rw [if_neg (by omega)] | rw [if_pos (by omega)])), rfl⟩
  refine lv_iconst (v := (nI 2)) hx hb dX1_whyNotJoin_20 (by decide) ?_
  exact hret _ _ _ (nI 2) _ _ dX1_whyNotJoin_21 hw rfl rfl ⟨congrArg nI (by clear hret hw hl M hK hZ hx hb; unfold whyJoin; (first | rw [if_pos c_2] | rw [if_neg (Bool.eq_false_iff.mp c_2)] | rw [if_neg (by omega)] | rw [if_pos (by omega)]) <;> (first | rw [if_pos c_4] | rw [if_neg (Bool.eq_false_iff.mp c_4)] | rw [if_neg (by omega)] | rw [if_pos (by omega)])), rfl⟩
set_option maxHeartbeats 4000000 in
set_option maxRecDepth 20000 in
theorem k_X1_whyNotValue (l : Launch) (G : va_G) (Y : Nat → Nat) (h : Nat) (ρ : Nat → Nat) (γ : Nat → Nat → Nat) (b k v : Int32) (hI : Inv ρ) : CtI l yX1_whyNotValue cX1_whyNotValue 4 .int 2 43 [.ref h, .int b, .int k, .int v] [aucW Y h ρ γ] (fun r sg => r = nI (whyValue ρ b.toInt k.toInt v.toInt) ∧ sg = [aucW Y h ρ γ]) G Y := by
  refine x_ofI (by decide) (Nat.le_of_ble_eq_true rfl) (fun p e s m args below meth c A ls Q M hK hZ hw hl hret => ?_)
  obtain ⟨hx, hb, -⟩ := id M
  have hl : lv_has ls 4 [(0, .ref h), (1, .int b), (2, .int k), (3, .int v)] := hl
  have := hI.n6
  have := hI.over
  have := hI.keep
  have := hI.stepp
  refine lv_aload_n hx hb dX1_whyNotValue_0 rfl (lv_at hl 0 rfl) ?_
  refine lv_iload_n hx hb dX1_whyNotValue_1 rfl (lv_at hl 1 rfl) ?_
  refine x_cVI (As := [.int b]) (k_X1_noBidder l G Y h ρ γ b (hI)) cw_X1_100 [0] 0 0 M hK hZ hw hl.1 rfl (by decide) rfl rfl rfl ⟨by decide, by decide⟩ ⟨Nat.zero_le _, Nat.zero_le _⟩ rfl rfl (Nat.le_of_ble_eq_true rfl) dX1_whyNotValue_2 (fun r sg h_1 H locs hw => ?_)
  obtain ⟨rfl, rfl⟩ := h_1
  have hw : xW G A s.heap [aucW Y h ρ γ] H locs := hw
  refine x_bne M (tgt := 15) dX1_whyNotValue_5 (by decide) (fun c_2 => ?_) (fun c_2 => ?_)
  · refine lv_iconst (v := (nI 1)) hx hb dX1_whyNotValue_15 (by decide) ?_
    exact hret _ _ _ (nI 1) _ _ dX1_whyNotValue_16 hw rfl rfl ⟨congrArg nI (by clear hret hw hl M hK hZ hx hb; unfold whyValue; (first | rw [if_pos c_2] | rw [if_neg (Bool.eq_false_iff.mp c_2)] | rw [if_neg (by omega)] | rw [if_pos (by omega)])), rfl⟩
  refine lv_iload_n hx hb dX1_whyNotValue_8 rfl (lv_at hl 2 rfl) ?_
  refine x_cNI (As := [.int k]) (k_X5_noKind l G Y k) cw_X1_95 [] M hK hZ hw hl.1 rfl (by decide) ⟨by decide, by decide⟩ ⟨Nat.zero_le _, Nat.zero_le _⟩ rfl rfl (Nat.le_of_ble_eq_true rfl) dX1_whyNotValue_9 (fun r sg h_3 H locs hw => ?_)
  obtain ⟨rfl, rfl⟩ := h_3
  have hw : xW G A s.heap [aucW Y h ρ γ] H locs := hw
  refine x_beq M (tgt := 17) dX1_whyNotValue_12 (by decide) (fun c_4 => ?_) (fun c_4 => ?_)
  · refine lv_iload_n hx hb dX1_whyNotValue_17 rfl (lv_at hl 3 rfl) ?_
    refine lv_iconst (v := (nI 0)) hx hb dX1_whyNotValue_18 (by decide) ?_
    refine lv_ldc (v := (nI 99999)) hx hb M.2.2.2.1 (M.2.2.2.2 _ mw_349) dX1_whyNotValue_19 ?_
    refine x_cNI (As := [.int v, .int (nI 0), .int (nI 99999)]) (k_X5_outside l G Y v (nI 0) (nI 99999)) cw_X1_68 [] M hK hZ hw hl.1 rfl (by decide) ⟨by decide, by decide⟩ ⟨Nat.zero_le _, Nat.zero_le _⟩ rfl rfl (Nat.le_of_ble_eq_true rfl) dX1_whyNotValue_21 (fun r sg h_5 H locs hw => ?_)
    obtain ⟨rfl, rfl⟩ := h_5
    have hw : xW G A s.heap [aucW Y h ρ γ] H locs := hw
    refine x_topI (y := b2i (!inZ v.toInt 0 99999)) rfl ?_
    refine x_beq M (tgt := 31) dX1_whyNotValue_24 (by decide) (fun c_6 => ?_) (fun c_6 => ?_)
    · refine lv_iconst (v := (nI 0)) hx hb dX1_whyNotValue_31 (by decide) ?_
      exact hret _ _ _ (nI 0) _ _ dX1_whyNotValue_32 hw rfl rfl ⟨congrArg nI (by clear hret hw hl M hK hZ hx hb; unfold whyValue; (first | rw [if_pos c_2] | rw [if_neg (Bool.eq_false_iff.mp c_2)] | rw [if_neg (by omega)] | rw [if_pos (by omega)]) <;> (first | rw [if_pos c_4] | rw [if_neg (Bool.eq_false_iff.mp c_4)] | rw [if_neg (by omega)] | rw [if_pos (by omega)]) <;> (first | rw [if_pos c_6] | rw [if_neg (Bool.eq_false_iff.mp c_6)] | rw [if_neg (by omega)] | rw [if_pos (by omega)])), rfl⟩
    refine lv_iconst (v := (nI 2)) hx hb dX1_whyNotValue_27 (by decide) ?_
    refine lv_goto (tgt := 32) hx hb dX1_whyNotValue_28 (by decide) ?_
    exact hret _ _ _ (nI 2) _ _ dX1_whyNotValue_32 hw rfl rfl ⟨congrArg nI (by clear hret hw hl M hK hZ hx hb; unfold whyValue; (first | rw [if_pos c_2] | rw [if_neg (Bool.eq_false_iff.mp c_2)] | rw [if_neg (by omega)] | rw [if_pos (by omega)]) <;> (first | rw [if_pos c_4] | rw [if_neg (Bool.eq_false_iff.mp c_4)] | rw [if_neg (by omega)] | rw [if_pos (by omega)]) <;> (first | rw [if_pos c_6] | rw [if_neg (Bool.eq_false_iff.mp c_6)] | rw [if_neg (by omega)] | rw [if_pos (by omega)])), rfl⟩
  refine lv_iconst (v := (nI 1)) hx hb dX1_whyNotValue_15 (by decide) ?_
  exact hret _ _ _ (nI 1) _ _ dX1_whyNotValue_16 hw rfl rfl ⟨congrArg nI (by clear hret hw hl M hK hZ hx hb; unfold whyValue; (first | rw [if_pos c_2] | rw [if_neg (Bool.eq_false_iff.mp c_2)] | rw [if_neg (by omega)] | rw [if_pos (by omega)]) <;> (first | rw [if_pos c_4] | rw [if_neg (Bool.eq_false_iff.mp c_4)] | rw [if_neg (by omega)] | rw [if_pos (by omega)])), rfl⟩
set_option maxHeartbeats 4000000 in
set_option maxRecDepth 20000 in
theorem k_X1_whyNotBid (l : Launch) (G : va_G) (Y : Nat → Nat) (h : Nat) (ρ : Nat → Nat) (γ : Nat → Nat → Nat) (b : Int32) (hI : Inv ρ) : CtI l yX1_whyNotBid cX1_whyNotBid 2 .int 2 43 [.ref h, .int b] [aucW Y h ρ γ] (fun r sg => r = nI (whyBid ρ b.toInt) ∧ sg = [aucW Y h ρ γ]) G Y := by
  refine x_ofI (by decide) (Nat.le_of_ble_eq_true rfl) (fun p e s m args below meth c A ls Q M hK hZ hw hl hret => ?_)
  obtain ⟨hx, hb, -⟩ := id M
  have hl : lv_has ls 2 [(0, .ref h), (1, .int b)] := hl
  have := hI.n6
  have := hI.over
  have := hI.keep
  have := hI.stepp
  refine lv_aload_n hx hb dX1_whyNotBid_0 rfl (lv_at hl 0 rfl) ?_
  refine lv_iload_n hx hb dX1_whyNotBid_1 rfl (lv_at hl 1 rfl) ?_
  refine x_cVI (As := [.int b]) (k_X1_noBidder l G Y h ρ γ b (hI)) cw_X1_100 [0] 0 0 M hK hZ hw hl.1 rfl (by decide) rfl rfl rfl ⟨by decide, by decide⟩ ⟨Nat.zero_le _, Nat.zero_le _⟩ rfl rfl (Nat.le_of_ble_eq_true rfl) dX1_whyNotBid_2 (fun r sg h_1 H locs hw => ?_)
  obtain ⟨rfl, rfl⟩ := h_1
  have hw : xW G A s.heap [aucW Y h ρ γ] H locs := hw
  refine x_beq M (tgt := 10) dX1_whyNotBid_5 (by decide) (fun c_2 => ?_) (fun c_2 => ?_)
  · refine lv_aload_n hx hb dX1_whyNotBid_10 rfl (lv_at hl 0 rfl) ?_
    refine x_get M hK hw 0 0 rfl rfl ff_X1_52 rfl dX1_whyNotBid_11 ?_
    refine x_zeq M (tgt := 21) (by omega) dX1_whyNotBid_14 (by decide) (fun c_3 => ?_) (fun c_3 => ?_)
    · refine lv_iconst (v := (nI 0)) hx hb dX1_whyNotBid_21 (by decide) ?_
      exact hret _ _ _ (nI 0) _ _ dX1_whyNotBid_22 hw rfl rfl ⟨congrArg nI (by clear hret hw hl M hK hZ hx hb; unfold whyBid; (first | rw [if_pos c_2] | rw [if_neg (Bool.eq_false_iff.mp c_2)] | rw [if_neg (by omega)] | rw [if_pos (by omega)]) <;> (first | rw [if_pos c_3] | rw [if_neg (Bool.eq_false_iff.mp c_3)] | rw [if_neg (by omega)] | rw [if_pos (by omega)])), rfl⟩
    refine lv_iconst (v := (nI 3)) hx hb dX1_whyNotBid_17 (by decide) ?_
    refine lv_goto (tgt := 22) hx hb dX1_whyNotBid_18 (by decide) ?_
    exact hret _ _ _ (nI 3) _ _ dX1_whyNotBid_22 hw rfl rfl ⟨congrArg nI (by clear hret hw hl M hK hZ hx hb; unfold whyBid; (first | rw [if_pos c_2] | rw [if_neg (Bool.eq_false_iff.mp c_2)] | rw [if_neg (by omega)] | rw [if_pos (by omega)]) <;> (first | rw [if_pos c_3] | rw [if_neg (Bool.eq_false_iff.mp c_3)] | rw [if_neg (by omega)] | rw [if_pos (by omega)])), rfl⟩
  refine lv_iconst (v := (nI 1)) hx hb dX1_whyNotBid_8 (by decide) ?_
  exact hret _ _ _ (nI 1) _ _ dX1_whyNotBid_9 hw rfl rfl ⟨congrArg nI (by clear hret hw hl M hK hZ hx hb; unfold whyBid; (first | rw [if_pos c_2] | rw [if_neg (Bool.eq_false_iff.mp c_2)] | rw [if_neg (by omega)] | rw [if_pos (by omega)])), rfl⟩
set_option maxHeartbeats 4000000 in
set_option maxRecDepth 20000 in
theorem k_X1_whyNotClose (l : Launch) (G : va_G) (Y : Nat → Nat) (h : Nat) (ρ : Nat → Nat) (γ : Nat → Nat → Nat) (hI : Inv ρ) : CtI l yX1_whyNotClose cX1_whyNotClose 1 .int 0 0 [.ref h] [aucW Y h ρ γ] (fun r sg => r = nI (whyClose ρ) ∧ sg = [aucW Y h ρ γ]) G Y := by
  refine x_ofI (by decide) (Nat.le_of_ble_eq_true rfl) (fun p e s m args below meth c A ls Q M hK hZ hw hl hret => ?_)
  obtain ⟨hx, hb, -⟩ := id M
  have hl : lv_has ls 1 [(0, .ref h)] := hl
  have := hI.n6
  have := hI.over
  have := hI.keep
  have := hI.stepp
  refine lv_aload_n hx hb dX1_whyNotClose_0 rfl (lv_at hl 0 rfl) ?_
  refine x_get M hK hw 0 0 rfl rfl ff_X1_52 rfl dX1_whyNotClose_1 ?_
  refine x_zeq M (tgt := 11) (by omega) dX1_whyNotClose_4 (by decide) (fun c_1 => ?_) (fun c_1 => ?_)
  · refine lv_iconst (v := (nI 0)) hx hb dX1_whyNotClose_11 (by decide) ?_
    exact hret _ _ _ (nI 0) _ _ dX1_whyNotClose_12 hw rfl rfl ⟨congrArg nI (by clear hret hw hl M hK hZ hx hb; unfold whyClose; (first | rw [if_pos c_1] | rw [if_neg (Bool.eq_false_iff.mp c_1)] | rw [if_neg (by omega)] | rw [if_pos (by omega)])), rfl⟩
  refine lv_iconst (v := (nI 3)) hx hb dX1_whyNotClose_7 (by decide) ?_
  refine lv_goto (tgt := 12) hx hb dX1_whyNotClose_8 (by decide) ?_
  exact hret _ _ _ (nI 3) _ _ dX1_whyNotClose_12 hw rfl rfl ⟨congrArg nI (by clear hret hw hl M hK hZ hx hb; unfold whyClose; (first | rw [if_pos c_1] | rw [if_neg (Bool.eq_false_iff.mp c_1)] | rw [if_neg (by omega)] | rw [if_pos (by omega)])), rfl⟩
set_option maxHeartbeats 4000000 in
set_option maxRecDepth 20000 in
theorem k_X1_whyNotAsk (l : Launch) (G : va_G) (Y : Nat → Nat) (h : Nat) (ρ : Nat → Nat) (γ : Nat → Nat → Nat) (b k n : Int32) (hI : Inv ρ) : CtI l yX1_whyNotAsk cX1_whyNotAsk 5 .int 2 44 [.ref h, .int b, .int k, .int n] [aucW Y h ρ γ] (fun r sg => r = nI (whyAsk ρ b.toInt k.toInt n.toInt) ∧ sg = [aucW Y h ρ γ]) G Y := by
  refine x_ofI (by decide) (Nat.le_of_ble_eq_true rfl) (fun p e s m args below meth c A ls Q M hK hZ hw hl hret => ?_)
  obtain ⟨hx, hb, -⟩ := id M
  have hl : lv_has ls 5 [(0, .ref h), (1, .int b), (2, .int k), (3, .int n)] := hl
  have := hI.n6
  have := hI.over
  have := hI.keep
  have := hI.stepp
  refine lv_aload_n hx hb dX1_whyNotAsk_0 rfl (lv_at hl 0 rfl) ?_
  refine lv_iload_n hx hb dX1_whyNotAsk_1 rfl (lv_at hl 1 rfl) ?_
  refine x_cVI (As := [.int b]) (k_X1_noBidder l G Y h ρ γ b (hI)) cw_X1_100 [0] 0 0 M hK hZ hw hl.1 rfl (by decide) rfl rfl rfl ⟨by decide, by decide⟩ ⟨Nat.zero_le _, Nat.zero_le _⟩ rfl rfl (Nat.le_of_ble_eq_true rfl) dX1_whyNotAsk_2 (fun r sg h_1 H locs hw => ?_)
  obtain ⟨rfl, rfl⟩ := h_1
  have hw : xW G A s.heap [aucW Y h ρ γ] H locs := hw
  refine x_bne M (tgt := 15) dX1_whyNotAsk_5 (by decide) (fun c_2 => ?_) (fun c_2 => ?_)
  · refine lv_iconst (v := (nI 1)) hx hb dX1_whyNotAsk_15 (by decide) ?_
    exact hret _ _ _ (nI 1) _ _ dX1_whyNotAsk_16 hw rfl rfl ⟨congrArg nI (by clear hret hw hl M hK hZ hx hb; unfold whyAsk; (first | rw [if_pos c_2] | rw [if_neg (Bool.eq_false_iff.mp c_2)] | rw [if_neg (by omega)] | rw [if_pos (by omega)])), rfl⟩
  refine lv_iload_n hx hb dX1_whyNotAsk_8 rfl (lv_at hl 2 rfl) ?_
  refine x_cNI (As := [.int k]) (k_X5_noKind l G Y k) cw_X1_95 [] M hK hZ hw hl.1 rfl (by decide) ⟨by decide, by decide⟩ ⟨Nat.zero_le _, Nat.zero_le _⟩ rfl rfl (Nat.le_of_ble_eq_true rfl) dX1_whyNotAsk_9 (fun r sg h_3 H locs hw => ?_)
  obtain ⟨rfl, rfl⟩ := h_3
  have hw : xW G A s.heap [aucW Y h ρ γ] H locs := hw
  refine x_beq M (tgt := 17) dX1_whyNotAsk_12 (by decide) (fun c_4 => ?_) (fun c_4 => ?_)
  · refine lv_iload_n hx hb dX1_whyNotAsk_17 rfl (lv_at hl 3 rfl) ?_
    refine lv_iconst (v := (nI 0)) hx hb dX1_whyNotAsk_18 (by decide) ?_
    refine lv_bipush (v := (nI 9)) hx hb dX1_whyNotAsk_19 (by decide) ?_
    refine x_cNI (As := [.int n, .int (nI 0), .int (nI 9)]) (k_X5_outside l G Y n (nI 0) (nI 9)) cw_X1_68 [] M hK hZ hw hl.1 rfl (by decide) ⟨by decide, by decide⟩ ⟨Nat.zero_le _, Nat.zero_le _⟩ rfl rfl (Nat.le_of_ble_eq_true rfl) dX1_whyNotAsk_21 (fun r sg h_5 H locs hw => ?_)
    obtain ⟨rfl, rfl⟩ := h_5
    have hw : xW G A s.heap [aucW Y h ρ γ] H locs := hw
    refine x_topI (y := b2i (!inZ n.toInt 0 9)) rfl ?_
    refine x_beq M (tgt := 29) dX1_whyNotAsk_24 (by decide) (fun c_6 => ?_) (fun c_6 => ?_)
    · obtain ⟨j, hj, rfl⟩ := nbf c_2
      have ej : (nI j).toInt.toNat = j := zt (by omega)
      obtain ⟨k1, hk1, rfl⟩ := zNf (by decide) c_4
      have ek1 : (nI k1).toInt.toNat = k1 := zt (by omega)
      obtain ⟨n1, hn1, rfl⟩ := zNf (by decide) c_6
      have en1 : (nI n1).toInt.toNat = n1 := zt (by omega)
      have hk2 : k1 < 3 := by omega
      refine lv_aload_n hx hb dX1_whyNotAsk_29 rfl (lv_at hl 0 rfl) ?_
      refine x_get M hK hw 0 0 rfl rfl ff_X1_52 rfl dX1_whyNotAsk_30 ?_
      refine x_zne M (tgt := 46) (by omega) dX1_whyNotAsk_33 (by decide) (fun c_7 => ?_) (fun c_7 => ?_)
      · refine lv_iconst (v := (nI 3)) hx hb dX1_whyNotAsk_46 (by decide) ?_
        exact hret _ _ _ (nI 3) _ _ dX1_whyNotAsk_47 hw rfl rfl ⟨congrArg nI (by clear hret hw hl M hK hZ hx hb; unfold whyAsk askBad; rw [ej, ek1, en1]; (first | rw [if_pos c_2] | rw [if_neg (Bool.eq_false_iff.mp c_2)] | rw [if_neg (by omega)] | rw [if_pos (by omega)]) <;> (first | rw [if_pos c_4] | rw [if_neg (Bool.eq_false_iff.mp c_4)] | rw [if_neg (by omega)] | rw [if_pos (by omega)]) <;> (first | rw [if_pos c_6] | rw [if_neg (Bool.eq_false_iff.mp c_6)] | rw [if_neg (by omega)] | rw [if_pos (by omega)]) <;> (first | rw [if_pos c_7] | rw [if_neg (Bool.eq_false_iff.mp c_7)] | rw [if_neg (by omega)] | rw [if_pos (by omega)])), rfl⟩
      refine lv_iload_n hx hb dX1_whyNotAsk_36 rfl (lv_at hl 3 rfl) ?_
      refine lv_aload_n hx hb dX1_whyNotAsk_37 rfl (lv_at hl 0 rfl) ?_
      refine lv_iload_n hx hb dX1_whyNotAsk_38 rfl (lv_at hl 1 rfl) ?_
      refine lv_iload_n hx hb dX1_whyNotAsk_39 rfl (lv_at hl 2 rfl) ?_
      refine x_cVI (As := [.int (nI j), .int (nI k1)]) (k_X1_mostLots l G Y h j k1 ρ γ (hI) (by omega) (by omega)) cw_X1_103 [0] 0 0 M hK hZ hw hl.1 rfl (by decide) rfl rfl rfl ⟨by decide, by decide⟩ ⟨Nat.zero_le _, Nat.zero_le _⟩ rfl rfl (Nat.le_of_ble_eq_true rfl) dX1_whyNotAsk_40 (fun r sg h_8 H locs hw => ?_)
      obtain ⟨rfl, rfl⟩ := h_8
      have hw : xW G A s.heap [aucW Y h ρ γ] H locs := hw
      have q_9 : most ρ j k1 ≤ 9 := most_le hI (by omega)
      refine x_cle M (tgt := 48) (by omega) (by omega) dX1_whyNotAsk_43 (by decide) (fun c_10 => ?_) (fun c_10 => ?_)
      · refine lv_iload_n hx hb dX1_whyNotAsk_48 rfl (lv_at hl 3 rfl) ?_
        refine lv_aload_n hx hb dX1_whyNotAsk_49 rfl (lv_at hl 0 rfl) ?_
        refine x_get M hK hw 0 0 rfl rfl ff_X1_33 rfl dX1_whyNotAsk_50 ?_
        refine lv_iload_n hx hb dX1_whyNotAsk_53 rfl (lv_at hl 1 rfl) ?_
        refine lv_iload_n hx hb dX1_whyNotAsk_54 rfl (lv_at hl 2 rfl) ?_
        refine x_cNI (As := [.int (nI j), .int (nI k1)]) (k_X5_cell l G Y j k1) cw_X1_72 [] M hK hZ hw hl.1 rfl (by decide) ⟨by decide, by decide⟩ ⟨Nat.zero_le _, Nat.zero_le _⟩ rfl rfl (Nat.le_of_ble_eq_true rfl) dX1_whyNotAsk_55 (fun r sg h_11 H locs hw => ?_)
        obtain ⟨rfl, rfl⟩ := h_11
        have hw : xW G A s.heap [aucW Y h ρ γ] H locs := hw
        refine x_iald M hK hw 0 8 rfl rfl (by omega) (by decide) dX1_whyNotAsk_58 ?_
        refine x_topN (n := ρ (19 + 21 * j + k1)) (congrArg nI (dem_at (j := j) (k := k1) (by omega) (by omega) (by omega) (by omega))) ?_
        have q_12 : ρ (19 + 21 * j + k1) ≤ 9 := hI.dem (j := j) (by omega) (k := k1) (by omega) (by omega)
        refine lv_isub hx hb dX1_whyNotAsk_59 ?_
        refine lv_istore (lv' := [(4, .int ((nI n1) - (nI (ρ (19 + 21 * j + k1))))), (0, .ref h), (1, .int (nI j)), (2, .int (nI k1)), (3, .int (nI n1))]) hx hb dX1_whyNotAsk_60 hl (by decide) rfl (fun ls hl => ?_)
        refine lv_aload_n hx hb dX1_whyNotAsk_62 rfl (lv_at hl 1 rfl) ?_
        refine lv_iload_n hx hb dX1_whyNotAsk_63 rfl (lv_at hl 2 rfl) ?_
        refine x_cVI (As := [.int (nI j)]) (k_X1_activity l G Y h j ρ γ (hI) (by omega)) cw_X1_106 [0] 0 0 M hK hZ hw hl.1 rfl (by decide) rfl rfl rfl ⟨by decide, by decide⟩ ⟨Nat.zero_le _, Nat.zero_le _⟩ rfl rfl (Nat.le_of_ble_eq_true rfl) dX1_whyNotAsk_64 (fun r sg h_13 H locs hw => ?_)
        obtain ⟨rfl, rfl⟩ := h_13
        have hw : xW G A s.heap [aucW Y h ρ γ] H locs := hw
        have q_14 : act ρ j ≤ 243 := act_le hI (by omega)
        refine lv_iload hx hb dX1_whyNotAsk_67 (lv_at hl 0 rfl) ?_
        refine lv_aload_n hx hb dX1_whyNotAsk_69 rfl (lv_at hl 1 rfl) ?_
        refine x_get M hK hw 0 0 rfl rfl ff_X1_15 rfl dX1_whyNotAsk_70 ?_
        refine lv_iload_n hx hb dX1_whyNotAsk_73 rfl (lv_at hl 3 rfl) ?_
        refine x_iald M hK hw 0 2 rfl rfl (by omega) (by decide) dX1_whyNotAsk_74 ?_
        refine x_topN (n := ρ (8 + k1)) (congrArg (fun q => nI (ρ q)) (by omega)) ?_
        have q_15 : 1 ≤ ρ (8 + k1) := (hI.pts (k := k1) (by omega) rfl).1
        have q_16 : ρ (8 + k1) ≤ 9 := (hI.pts (k := k1) (by omega) rfl).2
        refine lv_imul hx hb dX1_whyNotAsk_75 ?_
        refine lv_iadd hx hb dX1_whyNotAsk_76 ?_
        refine lv_aload_n hx hb dX1_whyNotAsk_77 rfl (lv_at hl 1 rfl) ?_
        refine x_get M hK hw 0 0 rfl rfl ff_X1_21 rfl dX1_whyNotAsk_78 ?_
        refine lv_iload_n hx hb dX1_whyNotAsk_81 rfl (lv_at hl 2 rfl) ?_
        refine x_iald M hK hw 0 4 rfl rfl (by omega) (by decide) dX1_whyNotAsk_82 ?_
        refine x_topN (n := ρ (14 + 21 * j)) (congrArg nI (rgt_at (j := j) (by omega) rfl (by omega))) ?_
        have q_17 : ρ (14 + 21 * j) ≤ 99 := hI.rgt (j := j) (by omega) (by omega)
        refine lv_icmp_le (tgt := 90) hx hb dX1_whyNotAsk_83 (by decide) (fun c_18 => ?_) (fun c_18 => ?_)
        · refine lv_iconst (v := (nI 0)) hx hb dX1_whyNotAsk_90 (by decide) ?_
          exact hret _ _ _ (nI 0) _ _ dX1_whyNotAsk_91 hw rfl rfl ⟨congrArg nI (by clear hret hw hl M hK hZ hx hb; unfold whyAsk askBad; rw [ej, ek1, en1]; (first | rw [if_pos c_2] | rw [if_neg (Bool.eq_false_iff.mp c_2)] | rw [if_neg (by omega)] | rw [if_pos (by omega)]) <;> (first | rw [if_pos c_4] | rw [if_neg (Bool.eq_false_iff.mp c_4)] | rw [if_neg (by omega)] | rw [if_pos (by omega)]) <;> (first | rw [if_pos c_6] | rw [if_neg (Bool.eq_false_iff.mp c_6)] | rw [if_neg (by omega)] | rw [if_pos (by omega)]) <;> (first | rw [if_pos c_7] | rw [if_neg (Bool.eq_false_iff.mp c_7)] | rw [if_neg (by omega)] | rw [if_pos (by omega)]) <;> (first | rw [if_pos c_10] | rw [if_neg (Bool.eq_false_iff.mp c_10)] | rw [if_neg (by omega)] | rw [if_pos (by omega)]) <;> (first | rw [if_pos c_18] | rw [if_neg (Bool.eq_false_iff.mp c_18)] | rw [if_neg (by omega)] | rw [if_pos (by omega)])), rfl⟩
        refine lv_iconst (v := (nI 3)) hx hb dX1_whyNotAsk_86 (by decide) ?_
        refine lv_goto (tgt := 91) hx hb dX1_whyNotAsk_87 (by decide) ?_
        exact hret _ _ _ (nI 3) _ _ dX1_whyNotAsk_91 hw rfl rfl ⟨congrArg nI (by clear hret hw hl M hK hZ hx hb; unfold whyAsk askBad; rw [ej, ek1, en1]; (first | rw [if_pos c_2] | rw [if_neg (Bool.eq_false_iff.mp c_2)] | rw [if_neg (by omega)] | rw [if_pos (by omega)]) <;> (first | rw [if_pos c_4] | rw [if_neg (Bool.eq_false_iff.mp c_4)] | rw [if_neg (by omega)] | rw [if_pos (by omega)]) <;> (first | rw [if_pos c_6] | rw [if_neg (Bool.eq_false_iff.mp c_6)] | rw [if_neg (by omega)] | rw [if_pos (by omega)]) <;> (first | rw [if_pos c_7] | rw [if_neg (Bool.eq_false_iff.mp c_7)] | rw [if_neg (by omega)] | rw [if_pos (by omega)]) <;> (first | rw [if_pos c_10] | rw [if_neg (Bool.eq_false_iff.mp c_10)] | rw [if_neg (by omega)] | rw [if_pos (by omega)]) <;> (first | rw [if_pos c_18] | rw [if_neg (Bool.eq_false_iff.mp c_18)] | rw [if_neg (by omega)] | rw [if_pos (by omega)])), rfl⟩
      refine lv_iconst (v := (nI 3)) hx hb dX1_whyNotAsk_46 (by decide) ?_
      exact hret _ _ _ (nI 3) _ _ dX1_whyNotAsk_47 hw rfl rfl ⟨congrArg nI (by clear hret hw hl M hK hZ hx hb; unfold whyAsk askBad; rw [ej, ek1, en1]; (first | rw [if_pos c_2] | rw [if_neg (Bool.eq_false_iff.mp c_2)] | rw [if_neg (by omega)] | rw [if_pos (by omega)]) <;> (first | rw [if_pos c_4] | rw [if_neg (Bool.eq_false_iff.mp c_4)] | rw [if_neg (by omega)] | rw [if_pos (by omega)]) <;> (first | rw [if_pos c_6] | rw [if_neg (Bool.eq_false_iff.mp c_6)] | rw [if_neg (by omega)] | rw [if_pos (by omega)]) <;> (first | rw [if_pos c_7] | rw [if_neg (Bool.eq_false_iff.mp c_7)] | rw [if_neg (by omega)] | rw [if_pos (by omega)]) <;> (first | rw [if_pos c_10] | rw [if_neg (Bool.eq_false_iff.mp c_10)] | rw [if_neg (by omega)] | rw [if_pos (by omega)])), rfl⟩
    refine lv_iconst (v := (nI 2)) hx hb dX1_whyNotAsk_27 (by decide) ?_
    exact hret _ _ _ (nI 2) _ _ dX1_whyNotAsk_28 hw rfl rfl ⟨congrArg nI (by clear hret hw hl M hK hZ hx hb; unfold whyAsk; (first | rw [if_pos c_2] | rw [if_neg (Bool.eq_false_iff.mp c_2)] | rw [if_neg (by omega)] | rw [if_pos (by omega)]) <;> (first | rw [if_pos c_4] | rw [if_neg (Bool.eq_false_iff.mp c_4)] | rw [if_neg (by omega)] | rw [if_pos (by omega)]) <;> (first | rw [if_pos c_6] | rw [if_neg (Bool.eq_false_iff.mp c_6)] | rw [if_neg (by omega)] | rw [if_pos (by omega)])), rfl⟩
  refine lv_iconst (v := (nI 1)) hx hb dX1_whyNotAsk_15 (by decide) ?_
  exact hret _ _ _ (nI 1) _ _ dX1_whyNotAsk_16 hw rfl rfl ⟨congrArg nI (by clear hret hw hl M hK hZ hx hb; unfold whyAsk; (first | rw [if_pos c_2] | rw [if_neg (Bool.eq_false_iff.mp c_2)] | rw [if_neg (by omega)] | rw [if_pos (by omega)]) <;> (first | rw [if_pos c_4] | rw [if_neg (Bool.eq_false_iff.mp c_4)] | rw [if_neg (by omega)] | rw [if_pos (by omega)])), rfl⟩
set_option maxHeartbeats 4000000 in
set_option maxRecDepth 20000 in
theorem k_X1_mayHave (l : Launch) (G : va_G) (Y : Nat → Nat) (h j a b d : Nat) (ρ : Nat → Nat) (γ : Nat → Nat → Nat) (hI : Inv ρ) (hj : j < ρ 4) (ha : a ≤ 9) (hb2 : b ≤ 9) (hd : d ≤ 9) : CtI l yX1_mayHave cX1_mayHave 5 .boolean 2 43 [.ref h, .int (nI j), .int (nI a), .int (nI b), .int (nI d)] [aucW Y h ρ γ] (fun r sg => r = b2i (mayHv ρ j a b d) ∧ sg = [aucW Y h ρ γ]) G Y := by
  refine x_ofI (by decide) (Nat.le_of_ble_eq_true rfl) (fun p e s m args below meth c A ls Q M hK hZ hw hl hret => ?_)
  obtain ⟨hx, hb, -⟩ := id M
  have hl : lv_has ls 5 [(0, .ref h), (1, .int (nI j)), (2, .int (nI a)), (3, .int (nI b)), (4, .int (nI d))] := hl
  have := hI.n6
  have := hI.over
  have := hI.keep
  have := hI.stepp
  refine lv_iload_n hx hb dX1_mayHave_0 rfl (lv_at hl 2 rfl) ?_
  refine lv_iload_n hx hb dX1_mayHave_1 rfl (lv_at hl 3 rfl) ?_
  refine x_iadd M (n := a + b) dX1_mayHave_2 rfl ?_
  refine lv_iload hx hb dX1_mayHave_3 (lv_at hl 4 rfl) ?_
  refine x_iadd M (n := a + b + d) dX1_mayHave_5 rfl ?_
  refine x_zne M (tgt := 11) (by omega) dX1_mayHave_6 (by decide) (fun c_1 => ?_) (fun c_1 => ?_)
  · refine lv_iload_n hx hb dX1_mayHave_11 rfl (lv_at hl 2 rfl) ?_
    refine lv_aload_n hx hb dX1_mayHave_12 rfl (lv_at hl 0 rfl) ?_
    refine lv_iload_n hx hb dX1_mayHave_13 rfl (lv_at hl 1 rfl) ?_
    refine lv_iconst (v := (nI 0)) hx hb dX1_mayHave_14 (by decide) ?_
    refine x_cVI (As := [.int (nI j), .int (nI 0)]) (k_X1_mostLots l G Y h j 0 ρ γ (hI) (by omega) (by omega)) cw_X1_103 [0] 0 0 M hK hZ hw hl.1 rfl (by decide) rfl rfl rfl ⟨by decide, by decide⟩ ⟨Nat.zero_le _, Nat.zero_le _⟩ rfl rfl (Nat.le_of_ble_eq_true rfl) dX1_mayHave_15 (fun r sg h_2 H locs hw => ?_)
    obtain ⟨rfl, rfl⟩ := h_2
    have hw : xW G A s.heap [aucW Y h ρ γ] H locs := hw
    have q_3 : most ρ j 0 ≤ 9 := most_le hI (by omega)
    refine x_cgt M (tgt := 42) (by omega) (by omega) dX1_mayHave_18 (by decide) (fun c_4 => ?_) (fun c_4 => ?_)
    · refine lv_iconst (v := (nI 0)) hx hb dX1_mayHave_42 (by decide) ?_
      exact hret _ _ _ (nI 0) _ _ dX1_mayHave_43 hw rfl rfl ⟨b2i_f (by clear hret hw hl M hK hZ hx hb; simp only [mayHv, decide_eq_false_iff_not]; omega), rfl⟩
    refine lv_iload_n hx hb dX1_mayHave_21 rfl (lv_at hl 3 rfl) ?_
    refine lv_aload_n hx hb dX1_mayHave_22 rfl (lv_at hl 0 rfl) ?_
    refine lv_iload_n hx hb dX1_mayHave_23 rfl (lv_at hl 1 rfl) ?_
    refine lv_iconst (v := (nI 1)) hx hb dX1_mayHave_24 (by decide) ?_
    refine x_cVI (As := [.int (nI j), .int (nI 1)]) (k_X1_mostLots l G Y h j 1 ρ γ (hI) (by omega) (by omega)) cw_X1_103 [0] 0 0 M hK hZ hw hl.1 rfl (by decide) rfl rfl rfl ⟨by decide, by decide⟩ ⟨Nat.zero_le _, Nat.zero_le _⟩ rfl rfl (Nat.le_of_ble_eq_true rfl) dX1_mayHave_25 (fun r sg h_5 H locs hw => ?_)
    obtain ⟨rfl, rfl⟩ := h_5
    have hw : xW G A s.heap [aucW Y h ρ γ] H locs := hw
    have q_6 : most ρ j 1 ≤ 9 := most_le hI (by omega)
    refine x_cgt M (tgt := 42) (by omega) (by omega) dX1_mayHave_28 (by decide) (fun c_7 => ?_) (fun c_7 => ?_)
    · refine lv_iconst (v := (nI 0)) hx hb dX1_mayHave_42 (by decide) ?_
      exact hret _ _ _ (nI 0) _ _ dX1_mayHave_43 hw rfl rfl ⟨b2i_f (by clear hret hw hl M hK hZ hx hb; simp only [mayHv, decide_eq_false_iff_not]; omega), rfl⟩
    refine lv_iload hx hb dX1_mayHave_31 (lv_at hl 4 rfl) ?_
    refine lv_aload_n hx hb dX1_mayHave_33 rfl (lv_at hl 0 rfl) ?_
    refine lv_iload_n hx hb dX1_mayHave_34 rfl (lv_at hl 1 rfl) ?_
    refine lv_iconst (v := (nI 2)) hx hb dX1_mayHave_35 (by decide) ?_
    refine x_cVI (As := [.int (nI j), .int (nI 2)]) (k_X1_mostLots l G Y h j 2 ρ γ (hI) (by omega) (by omega)) cw_X1_103 [0] 0 0 M hK hZ hw hl.1 rfl (by decide) rfl rfl rfl ⟨by decide, by decide⟩ ⟨Nat.zero_le _, Nat.zero_le _⟩ rfl rfl (Nat.le_of_ble_eq_true rfl) dX1_mayHave_36 (fun r sg h_8 H locs hw => ?_)
    obtain ⟨rfl, rfl⟩ := h_8
    have hw : xW G A s.heap [aucW Y h ρ γ] H locs := hw
    have q_9 : most ρ j 2 ≤ 9 := most_le hI (by omega)
    refine x_cle M (tgt := 44) (by omega) (by omega) dX1_mayHave_39 (by decide) (fun c_10 => ?_) (fun c_10 => ?_)
    · refine lv_iload_n hx hb dX1_mayHave_44 rfl (lv_at hl 2 rfl) ?_
      refine lv_aload_n hx hb dX1_mayHave_45 rfl (lv_at hl 0 rfl) ?_
      refine x_get M hK hw 0 0 rfl rfl ff_X1_15 rfl dX1_mayHave_46 ?_
      refine lv_iconst (v := (nI 0)) hx hb dX1_mayHave_49 (by decide) ?_
      refine x_iald M hK hw 0 2 rfl rfl (by decide) (by decide) dX1_mayHave_50 ?_
      refine x_topN (n := ρ 8) rfl ?_
      have q_11 : 1 ≤ ρ 8 := (hI.pts (q := 8) (k := 0) (by decide) rfl).1
      have q_12 : ρ 8 ≤ 9 := (hI.pts (q := 8) (k := 0) (by decide) rfl).2
      refine x_imul M (n := a * (ρ 8)) dX1_mayHave_51 rfl ?_
      have q_13 : a * (ρ 8) ≤ 81 := Nat.le_trans (Nat.mul_le_mul (show a ≤ 9 by omega) (show ρ 8 ≤ 9 by omega)) (by decide)
      refine lv_iload_n hx hb dX1_mayHave_52 rfl (lv_at hl 3 rfl) ?_
      refine lv_aload_n hx hb dX1_mayHave_53 rfl (lv_at hl 0 rfl) ?_
      refine x_get M hK hw 0 0 rfl rfl ff_X1_15 rfl dX1_mayHave_54 ?_
      refine lv_iconst (v := (nI 1)) hx hb dX1_mayHave_57 (by decide) ?_
      refine x_iald M hK hw 0 2 rfl rfl (by decide) (by decide) dX1_mayHave_58 ?_
      refine x_topN (n := ρ 9) rfl ?_
      have q_14 : 1 ≤ ρ 9 := (hI.pts (q := 9) (k := 1) (by decide) rfl).1
      have q_15 : ρ 9 ≤ 9 := (hI.pts (q := 9) (k := 1) (by decide) rfl).2
      refine x_imul M (n := b * (ρ 9)) dX1_mayHave_59 rfl ?_
      have q_16 : b * (ρ 9) ≤ 81 := Nat.le_trans (Nat.mul_le_mul (show b ≤ 9 by omega) (show ρ 9 ≤ 9 by omega)) (by decide)
      refine x_iadd M (n := (a * (ρ 8)) + (b * (ρ 9))) dX1_mayHave_60 rfl ?_
      refine lv_iload hx hb dX1_mayHave_61 (lv_at hl 4 rfl) ?_
      refine lv_aload_n hx hb dX1_mayHave_63 rfl (lv_at hl 0 rfl) ?_
      refine x_get M hK hw 0 0 rfl rfl ff_X1_15 rfl dX1_mayHave_64 ?_
      refine lv_iconst (v := (nI 2)) hx hb dX1_mayHave_67 (by decide) ?_
      refine x_iald M hK hw 0 2 rfl rfl (by decide) (by decide) dX1_mayHave_68 ?_
      refine x_topN (n := ρ 10) rfl ?_
      have q_17 : 1 ≤ ρ 10 := (hI.pts (q := 10) (k := 2) (by decide) rfl).1
      have q_18 : ρ 10 ≤ 9 := (hI.pts (q := 10) (k := 2) (by decide) rfl).2
      refine x_imul M (n := d * (ρ 10)) dX1_mayHave_69 rfl ?_
      have q_19 : d * (ρ 10) ≤ 81 := Nat.le_trans (Nat.mul_le_mul (show d ≤ 9 by omega) (show ρ 10 ≤ 9 by omega)) (by decide)
      refine x_iadd M (n := (a * (ρ 8)) + (b * (ρ 9)) + (d * (ρ 10))) dX1_mayHave_70 rfl ?_
      refine lv_aload_n hx hb dX1_mayHave_71 rfl (lv_at hl 0 rfl) ?_
      refine x_get M hK hw 0 0 rfl rfl ff_X1_21 rfl dX1_mayHave_72 ?_
      refine lv_iload_n hx hb dX1_mayHave_75 rfl (lv_at hl 1 rfl) ?_
      refine x_iald M hK hw 0 4 rfl rfl (by omega) (by decide) dX1_mayHave_76 ?_
      refine x_topN (n := ρ (14 + 21 * j)) (congrArg nI (rgt_at (j := j) (by omega) rfl (by omega))) ?_
      have q_20 : ρ (14 + 21 * j) ≤ 99 := hI.rgt (j := j) (by omega) (by omega)
      refine x_cgt M (tgt := 84) (by omega) (by omega) dX1_mayHave_77 (by decide) (fun c_21 => ?_) (fun c_21 => ?_)
      · refine lv_iconst (v := (nI 0)) hx hb dX1_mayHave_84 (by decide) ?_
        exact hret _ _ _ (nI 0) _ _ dX1_mayHave_85 hw rfl rfl ⟨b2i_f (by clear hret hw hl M hK hZ hx hb; simp only [mayHv, decide_eq_false_iff_not]; omega), rfl⟩
      refine lv_iconst (v := (nI 1)) hx hb dX1_mayHave_80 (by decide) ?_
      refine lv_goto (tgt := 85) hx hb dX1_mayHave_81 (by decide) ?_
      exact hret _ _ _ (nI 1) _ _ dX1_mayHave_85 hw rfl rfl ⟨b2i_t (by clear hret hw hl M hK hZ hx hb; simp only [mayHv, decide_eq_true_eq]; omega), rfl⟩
    refine lv_iconst (v := (nI 0)) hx hb dX1_mayHave_42 (by decide) ?_
    exact hret _ _ _ (nI 0) _ _ dX1_mayHave_43 hw rfl rfl ⟨b2i_f (by clear hret hw hl M hK hZ hx hb; simp only [mayHv, decide_eq_false_iff_not]; omega), rfl⟩
  refine lv_iconst (v := (nI 0)) hx hb dX1_mayHave_9 (by decide) ?_
  exact hret _ _ _ (nI 0) _ _ dX1_mayHave_10 hw rfl rfl ⟨b2i_f (by clear hret hw hl M hK hZ hx hb; simp only [mayHv, decide_eq_false_iff_not]; omega), rfl⟩
set_option maxHeartbeats 4000000 in
set_option maxRecDepth 20000 in
theorem k_X1_whyNotAdd (l : Launch) (G : va_G) (Y : Nat → Nat) (h : Nat) (ρ : Nat → Nat) (γ : Nat → Nat → Nat) (b x y z v : Int32) (hI : Inv ρ) : CtI l yX1_whyNotAdd cX1_whyNotAdd 6 .int 3 67 [.ref h, .int b, .int x, .int y, .int z, .int v] [aucW Y h ρ γ] (fun r sg => r = nI (whyAdd ρ b.toInt x.toInt y.toInt z.toInt v.toInt) ∧ sg = [aucW Y h ρ γ]) G Y := by
  refine x_ofI (by decide) (Nat.le_of_ble_eq_true rfl) (fun p e s m args below meth c A ls Q M hK hZ hw hl hret => ?_)
  obtain ⟨hx, hb, -⟩ := id M
  have hl : lv_has ls 6 [(0, .ref h), (1, .int b), (2, .int x), (3, .int y), (4, .int z), (5, .int v)] := hl
  have := hI.n6
  have := hI.over
  have := hI.keep
  have := hI.stepp
  refine lv_aload_n hx hb dX1_whyNotAdd_0 rfl (lv_at hl 0 rfl) ?_
  refine lv_iload_n hx hb dX1_whyNotAdd_1 rfl (lv_at hl 1 rfl) ?_
  refine x_cVI (As := [.int b]) (k_X1_noBidder l G Y h ρ γ b (hI)) cw_X1_100 [0] 0 0 M hK hZ hw hl.1 rfl (by decide) rfl rfl rfl ⟨by decide, by decide⟩ ⟨Nat.zero_le _, Nat.zero_le _⟩ rfl rfl (Nat.le_of_ble_eq_true rfl) dX1_whyNotAdd_2 (fun r sg h_1 H locs hw => ?_)
  obtain ⟨rfl, rfl⟩ := h_1
  have hw : xW G A s.heap [aucW Y h ρ γ] H locs := hw
  refine x_beq M (tgt := 10) dX1_whyNotAdd_5 (by decide) (fun c_2 => ?_) (fun c_2 => ?_)
  · refine lv_iload_n hx hb dX1_whyNotAdd_10 rfl (lv_at hl 2 rfl) ?_
    refine lv_iconst (v := (nI 0)) hx hb dX1_whyNotAdd_11 (by decide) ?_
    refine lv_bipush (v := (nI 9)) hx hb dX1_whyNotAdd_12 (by decide) ?_
    refine x_cNI (As := [.int x, .int (nI 0), .int (nI 9)]) (k_X5_outside l G Y x (nI 0) (nI 9)) cw_X1_68 [] M hK hZ hw hl.1 rfl (by decide) ⟨by decide, by decide⟩ ⟨Nat.zero_le _, Nat.zero_le _⟩ rfl rfl (Nat.le_of_ble_eq_true rfl) dX1_whyNotAdd_14 (fun r sg h_3 H locs hw => ?_)
    obtain ⟨rfl, rfl⟩ := h_3
    have hw : xW G A s.heap [aucW Y h ρ γ] H locs := hw
    refine x_topI (y := b2i (!inZ x.toInt 0 9)) rfl ?_
    refine x_bne M (tgt := 52) dX1_whyNotAdd_17 (by decide) (fun c_4 => ?_) (fun c_4 => ?_)
    · refine lv_iconst (v := (nI 2)) hx hb dX1_whyNotAdd_52 (by decide) ?_
      exact hret _ _ _ (nI 2) _ _ dX1_whyNotAdd_53 hw rfl rfl ⟨congrArg nI (by clear hret hw hl M hK hZ hx hb; unfold whyAdd; (first | rw [if_pos c_2] | rw [if_neg (Bool.eq_false_iff.mp c_2)] | rw [if_neg (by omega)] | rw [if_pos (by omega)]) <;> (first | rw [if_pos c_4] | rw [if_neg (Bool.eq_false_iff.mp c_4)] | rw [if_neg (by omega)] | rw [if_pos (by omega)])), rfl⟩
    refine lv_iload_n hx hb dX1_whyNotAdd_20 rfl (lv_at hl 3 rfl) ?_
    refine lv_iconst (v := (nI 0)) hx hb dX1_whyNotAdd_21 (by decide) ?_
    refine lv_bipush (v := (nI 9)) hx hb dX1_whyNotAdd_22 (by decide) ?_
    refine x_cNI (As := [.int y, .int (nI 0), .int (nI 9)]) (k_X5_outside l G Y y (nI 0) (nI 9)) cw_X1_68 [] M hK hZ hw hl.1 rfl (by decide) ⟨by decide, by decide⟩ ⟨Nat.zero_le _, Nat.zero_le _⟩ rfl rfl (Nat.le_of_ble_eq_true rfl) dX1_whyNotAdd_24 (fun r sg h_5 H locs hw => ?_)
    obtain ⟨rfl, rfl⟩ := h_5
    have hw : xW G A s.heap [aucW Y h ρ γ] H locs := hw
    refine x_topI (y := b2i (!inZ y.toInt 0 9)) rfl ?_
    refine x_bne M (tgt := 52) dX1_whyNotAdd_27 (by decide) (fun c_6 => ?_) (fun c_6 => ?_)
    · refine lv_iconst (v := (nI 2)) hx hb dX1_whyNotAdd_52 (by decide) ?_
      exact hret _ _ _ (nI 2) _ _ dX1_whyNotAdd_53 hw rfl rfl ⟨congrArg nI (by clear hret hw hl M hK hZ hx hb; unfold whyAdd; (first | rw [if_pos c_2] | rw [if_neg (Bool.eq_false_iff.mp c_2)] | rw [if_neg (by omega)] | rw [if_pos (by omega)]) <;> (first | rw [if_pos c_4] | rw [if_neg (Bool.eq_false_iff.mp c_4)] | rw [if_neg (by omega)] | rw [if_pos (by omega)]) <;> (first | rw [if_pos c_6] | rw [if_neg (Bool.eq_false_iff.mp c_6)] | rw [if_neg (by omega)] | rw [if_pos (by omega)])), rfl⟩
    refine lv_iload hx hb dX1_whyNotAdd_30 (lv_at hl 4 rfl) ?_
    refine lv_iconst (v := (nI 0)) hx hb dX1_whyNotAdd_32 (by decide) ?_
    refine lv_bipush (v := (nI 9)) hx hb dX1_whyNotAdd_33 (by decide) ?_
    refine x_cNI (As := [.int z, .int (nI 0), .int (nI 9)]) (k_X5_outside l G Y z (nI 0) (nI 9)) cw_X1_68 [] M hK hZ hw hl.1 rfl (by decide) ⟨by decide, by decide⟩ ⟨Nat.zero_le _, Nat.zero_le _⟩ rfl rfl (Nat.le_of_ble_eq_true rfl) dX1_whyNotAdd_35 (fun r sg h_7 H locs hw => ?_)
    obtain ⟨rfl, rfl⟩ := h_7
    have hw : xW G A s.heap [aucW Y h ρ γ] H locs := hw
    refine x_topI (y := b2i (!inZ z.toInt 0 9)) rfl ?_
    refine x_bne M (tgt := 52) dX1_whyNotAdd_38 (by decide) (fun c_8 => ?_) (fun c_8 => ?_)
    · refine lv_iconst (v := (nI 2)) hx hb dX1_whyNotAdd_52 (by decide) ?_
      exact hret _ _ _ (nI 2) _ _ dX1_whyNotAdd_53 hw rfl rfl ⟨congrArg nI (by clear hret hw hl M hK hZ hx hb; unfold whyAdd; (first | rw [if_pos c_2] | rw [if_neg (Bool.eq_false_iff.mp c_2)] | rw [if_neg (by omega)] | rw [if_pos (by omega)]) <;> (first | rw [if_pos c_4] | rw [if_neg (Bool.eq_false_iff.mp c_4)] | rw [if_neg (by omega)] | rw [if_pos (by omega)]) <;> (first | rw [if_pos c_6] | rw [if_neg (Bool.eq_false_iff.mp c_6)] | rw [if_neg (by omega)] | rw [if_pos (by omega)]) <;> (first | rw [if_pos c_8] | rw [if_neg (Bool.eq_false_iff.mp c_8)] | rw [if_neg (by omega)] | rw [if_pos (by omega)])), rfl⟩
    refine lv_iload hx hb dX1_whyNotAdd_41 (lv_at hl 5 rfl) ?_
    refine lv_iconst (v := (nI 1)) hx hb dX1_whyNotAdd_43 (by decide) ?_
    refine lv_ldc (v := (nI 999999)) hx hb M.2.2.2.1 (M.2.2.2.2 _ mw_422) dX1_whyNotAdd_44 ?_
    refine x_cNI (As := [.int v, .int (nI 1), .int (nI 999999)]) (k_X5_outside l G Y v (nI 1) (nI 999999)) cw_X1_68 [] M hK hZ hw hl.1 rfl (by decide) ⟨by decide, by decide⟩ ⟨Nat.zero_le _, Nat.zero_le _⟩ rfl rfl (Nat.le_of_ble_eq_true rfl) dX1_whyNotAdd_46 (fun r sg h_9 H locs hw => ?_)
    obtain ⟨rfl, rfl⟩ := h_9
    have hw : xW G A s.heap [aucW Y h ρ γ] H locs := hw
    refine x_topI (y := b2i (!inZ v.toInt 1 999999)) rfl ?_
    refine x_beq M (tgt := 54) dX1_whyNotAdd_49 (by decide) (fun c_10 => ?_) (fun c_10 => ?_)
    · obtain ⟨j, hj, rfl⟩ := nbf c_2
      have ej : (nI j).toInt.toNat = j := zt (by omega)
      obtain ⟨x1, hx1, rfl⟩ := zNf (by decide) c_4
      have ex1 : (nI x1).toInt.toNat = x1 := zt (by omega)
      obtain ⟨y1, hy1, rfl⟩ := zNf (by decide) c_6
      have ey1 : (nI y1).toInt.toNat = y1 := zt (by omega)
      obtain ⟨z1, hz1, rfl⟩ := zNf (by decide) c_8
      have ez1 : (nI z1).toInt.toNat = z1 := zt (by omega)
      obtain ⟨v1, hv1, rfl⟩ := zNf (by decide) c_10
      have ev1 : (nI v1).toInt.toNat = v1 := zt (by omega)
      refine lv_aload_n hx hb dX1_whyNotAdd_54 rfl (lv_at hl 0 rfl) ?_
      refine x_get M hK hw 0 0 rfl rfl ff_X1_52 rfl dX1_whyNotAdd_55 ?_
      refine x_zeq M (tgt := 84) (by omega) dX1_whyNotAdd_58 (by decide) (fun c_11 => ?_) (fun c_11 => ?_)
      · refine lv_iconst (v := (nI 3)) hx hb dX1_whyNotAdd_84 (by decide) ?_
        exact hret _ _ _ (nI 3) _ _ dX1_whyNotAdd_85 hw rfl rfl ⟨congrArg nI (by clear hret hw hl M hK hZ hx hb; unfold whyAdd addOk; rw [ej, ex1, ey1, ez1, ev1]; (first | rw [if_pos c_2] | rw [if_neg (Bool.eq_false_iff.mp c_2)] | rw [if_neg (by omega)] | rw [if_pos (by omega)]) <;> (first | rw [if_pos c_4] | rw [if_neg (Bool.eq_false_iff.mp c_4)] | rw [if_neg (by omega)] | rw [if_pos (by omega)]) <;> (first | rw [if_pos c_6] | rw [if_neg (Bool.eq_false_iff.mp c_6)] | rw [if_neg (by omega)] | rw [if_pos (by omega)]) <;> (first | rw [if_pos c_8] | rw [if_neg (Bool.eq_false_iff.mp c_8)] | rw [if_neg (by omega)] | rw [if_pos (by omega)]) <;> (first | rw [if_pos c_10] | rw [if_neg (Bool.eq_false_iff.mp c_10)] | rw [if_neg (by omega)] | rw [if_pos (by omega)]) <;> (first | rw [if_pos c_11] | rw [if_neg (Bool.eq_false_iff.mp c_11)] | rw [if_neg (by omega)] | rw [if_pos (by omega)])), rfl⟩
      refine lv_aload_n hx hb dX1_whyNotAdd_61 rfl (lv_at hl 0 rfl) ?_
      refine x_get M hK hw 0 0 rfl rfl ff_X1_27 rfl dX1_whyNotAdd_62 ?_
      refine lv_iload_n hx hb dX1_whyNotAdd_65 rfl (lv_at hl 1 rfl) ?_
      refine x_iald M hK hw 0 6 rfl rfl (by omega) (by decide) dX1_whyNotAdd_66 ?_
      refine x_topN (n := ρ (22 + 21 * j)) (congrArg nI (pck_at (j := j) (by omega) rfl (by omega))) ?_
      have q_12 : ρ (22 + 21 * j) ≤ 3 := hI.pck (j := j) (by omega) (by omega)
      refine lv_iconst (v := (nI 3)) hx hb dX1_whyNotAdd_67 (by decide) ?_
      refine x_cge M (tgt := 84) (by omega) (by decide) dX1_whyNotAdd_68 (by decide) (fun c_13 => ?_) (fun c_13 => ?_)
      · refine lv_iconst (v := (nI 3)) hx hb dX1_whyNotAdd_84 (by decide) ?_
        exact hret _ _ _ (nI 3) _ _ dX1_whyNotAdd_85 hw rfl rfl ⟨congrArg nI (by clear hret hw hl M hK hZ hx hb; unfold whyAdd addOk; rw [ej, ex1, ey1, ez1, ev1]; (first | rw [if_pos c_2] | rw [if_neg (Bool.eq_false_iff.mp c_2)] | rw [if_neg (by omega)] | rw [if_pos (by omega)]) <;> (first | rw [if_pos c_4] | rw [if_neg (Bool.eq_false_iff.mp c_4)] | rw [if_neg (by omega)] | rw [if_pos (by omega)]) <;> (first | rw [if_pos c_6] | rw [if_neg (Bool.eq_false_iff.mp c_6)] | rw [if_neg (by omega)] | rw [if_pos (by omega)]) <;> (first | rw [if_pos c_8] | rw [if_neg (Bool.eq_false_iff.mp c_8)] | rw [if_neg (by omega)] | rw [if_pos (by omega)]) <;> (first | rw [if_pos c_10] | rw [if_neg (Bool.eq_false_iff.mp c_10)] | rw [if_neg (by omega)] | rw [if_pos (by omega)]) <;> (first | rw [if_pos c_11] | rw [if_neg (Bool.eq_false_iff.mp c_11)] | rw [if_neg (by omega)] | rw [if_pos (by omega)]) <;> (first | rw [if_pos c_13] | rw [if_neg (Bool.eq_false_iff.mp c_13)] | rw [if_neg (by omega)] | rw [if_pos (by omega)])), rfl⟩
      refine lv_iload hx hb dX1_whyNotAdd_71 (lv_at hl 5 rfl) ?_
      refine lv_aload_n hx hb dX1_whyNotAdd_73 rfl (lv_at hl 0 rfl) ?_
      refine lv_iload_n hx hb dX1_whyNotAdd_74 rfl (lv_at hl 2 rfl) ?_
      refine lv_iload_n hx hb dX1_whyNotAdd_75 rfl (lv_at hl 3 rfl) ?_
      refine lv_iload hx hb dX1_whyNotAdd_76 (lv_at hl 4 rfl) ?_
      refine x_cVI (As := [.int (nI x1), .int (nI y1), .int (nI z1)]) (k_X1_costOf l G Y h x1 y1 z1 ρ γ (hI) (by omega) (by omega) (by omega)) cw_X1_91 [0] 0 0 M hK hZ hw hl.1 rfl (by decide) rfl rfl rfl ⟨by decide, by decide⟩ ⟨Nat.zero_le _, Nat.zero_le _⟩ rfl rfl (Nat.le_of_ble_eq_true rfl) dX1_whyNotAdd_78 (fun r sg h_14 H locs hw => ?_)
      obtain ⟨rfl, rfl⟩ := h_14
      have hw : xW G A s.heap [aucW Y h ρ γ] H locs := hw
      have q_15 : costOf ρ x1 y1 z1 ≤ 2699973 := costOf_le hI (by omega) (by omega) (by omega)
      refine x_cge M (tgt := 86) (by omega) (by omega) dX1_whyNotAdd_81 (by decide) (fun c_16 => ?_) (fun c_16 => ?_)
      · refine lv_aload_n hx hb dX1_whyNotAdd_86 rfl (lv_at hl 0 rfl) ?_
        refine lv_iload_n hx hb dX1_whyNotAdd_87 rfl (lv_at hl 1 rfl) ?_
        refine lv_iload_n hx hb dX1_whyNotAdd_88 rfl (lv_at hl 2 rfl) ?_
        refine lv_iload_n hx hb dX1_whyNotAdd_89 rfl (lv_at hl 3 rfl) ?_
        refine lv_iload hx hb dX1_whyNotAdd_90 (lv_at hl 4 rfl) ?_
        refine x_cVI (As := [.int (nI j), .int (nI x1), .int (nI y1), .int (nI z1)]) (k_X1_mayHave l G Y h j x1 y1 z1 ρ γ (hI) (by omega) (by omega) (by omega) (by omega)) cw_X1_110 [0] 0 0 M hK hZ hw hl.1 rfl (by decide) rfl rfl rfl ⟨by decide, by decide⟩ ⟨Nat.zero_le _, Nat.zero_le _⟩ rfl rfl (Nat.le_of_ble_eq_true rfl) dX1_whyNotAdd_92 (fun r sg h_17 H locs hw => ?_)
        obtain ⟨rfl, rfl⟩ := h_17
        have hw : xW G A s.heap [aucW Y h ρ γ] H locs := hw
        refine x_beq M (tgt := 102) dX1_whyNotAdd_95 (by decide) (fun c_18 => ?_) (fun c_18 => ?_)
        · refine lv_iconst (v := (nI 3)) hx hb dX1_whyNotAdd_102 (by decide) ?_
          exact hret _ _ _ (nI 3) _ _ dX1_whyNotAdd_103 hw rfl rfl ⟨congrArg nI (by clear hret hw hl M hK hZ hx hb; unfold whyAdd addOk; rw [ej, ex1, ey1, ez1, ev1]; (first | rw [if_pos c_2] | rw [if_neg (Bool.eq_false_iff.mp c_2)] | rw [if_neg (by omega)] | rw [if_pos (by omega)]) <;> (first | rw [if_pos c_4] | rw [if_neg (Bool.eq_false_iff.mp c_4)] | rw [if_neg (by omega)] | rw [if_pos (by omega)]) <;> (first | rw [if_pos c_6] | rw [if_neg (Bool.eq_false_iff.mp c_6)] | rw [if_neg (by omega)] | rw [if_pos (by omega)]) <;> (first | rw [if_pos c_8] | rw [if_neg (Bool.eq_false_iff.mp c_8)] | rw [if_neg (by omega)] | rw [if_pos (by omega)]) <;> (first | rw [if_pos c_10] | rw [if_neg (Bool.eq_false_iff.mp c_10)] | rw [if_neg (by omega)] | rw [if_pos (by omega)]) <;> (first | rw [if_pos c_11] | rw [if_neg (Bool.eq_false_iff.mp c_11)] | rw [if_neg (by omega)] | rw [if_pos (by omega)]) <;> (first | rw [if_pos c_13] | rw [if_neg (Bool.eq_false_iff.mp c_13)] | rw [if_neg (by omega)] | rw [if_pos (by omega)]) <;> (first | rw [if_pos c_16] | rw [if_neg (Bool.eq_false_iff.mp c_16)] | rw [if_neg (by omega)] | rw [if_pos (by omega)]) <;> (first | rw [if_pos c_18] | rw [if_neg (Bool.eq_false_iff.mp c_18)] | rw [if_neg (by omega)] | rw [if_pos (by omega)])), rfl⟩
        refine lv_iconst (v := (nI 0)) hx hb dX1_whyNotAdd_98 (by decide) ?_
        refine lv_goto (tgt := 103) hx hb dX1_whyNotAdd_99 (by decide) ?_
        exact hret _ _ _ (nI 0) _ _ dX1_whyNotAdd_103 hw rfl rfl ⟨congrArg nI (by clear hret hw hl M hK hZ hx hb; unfold whyAdd addOk; rw [ej, ex1, ey1, ez1, ev1]; (first | rw [if_pos c_2] | rw [if_neg (Bool.eq_false_iff.mp c_2)] | rw [if_neg (by omega)] | rw [if_pos (by omega)]) <;> (first | rw [if_pos c_4] | rw [if_neg (Bool.eq_false_iff.mp c_4)] | rw [if_neg (by omega)] | rw [if_pos (by omega)]) <;> (first | rw [if_pos c_6] | rw [if_neg (Bool.eq_false_iff.mp c_6)] | rw [if_neg (by omega)] | rw [if_pos (by omega)]) <;> (first | rw [if_pos c_8] | rw [if_neg (Bool.eq_false_iff.mp c_8)] | rw [if_neg (by omega)] | rw [if_pos (by omega)]) <;> (first | rw [if_pos c_10] | rw [if_neg (Bool.eq_false_iff.mp c_10)] | rw [if_neg (by omega)] | rw [if_pos (by omega)]) <;> (first | rw [if_pos c_11] | rw [if_neg (Bool.eq_false_iff.mp c_11)] | rw [if_neg (by omega)] | rw [if_pos (by omega)]) <;> (first | rw [if_pos c_13] | rw [if_neg (Bool.eq_false_iff.mp c_13)] | rw [if_neg (by omega)] | rw [if_pos (by omega)]) <;> (first | rw [if_pos c_16] | rw [if_neg (Bool.eq_false_iff.mp c_16)] | rw [if_neg (by omega)] | rw [if_pos (by omega)]) <;> (first | rw [if_pos c_18] | rw [if_neg (Bool.eq_false_iff.mp c_18)] | rw [if_neg (by omega)] | rw [if_pos (by omega)])), rfl⟩
      refine lv_iconst (v := (nI 3)) hx hb dX1_whyNotAdd_84 (by decide) ?_
      exact hret _ _ _ (nI 3) _ _ dX1_whyNotAdd_85 hw rfl rfl ⟨congrArg nI (by clear hret hw hl M hK hZ hx hb; unfold whyAdd addOk; rw [ej, ex1, ey1, ez1, ev1]; (first | rw [if_pos c_2] | rw [if_neg (Bool.eq_false_iff.mp c_2)] | rw [if_neg (by omega)] | rw [if_pos (by omega)]) <;> (first | rw [if_pos c_4] | rw [if_neg (Bool.eq_false_iff.mp c_4)] | rw [if_neg (by omega)] | rw [if_pos (by omega)]) <;> (first | rw [if_pos c_6] | rw [if_neg (Bool.eq_false_iff.mp c_6)] | rw [if_neg (by omega)] | rw [if_pos (by omega)]) <;> (first | rw [if_pos c_8] | rw [if_neg (Bool.eq_false_iff.mp c_8)] | rw [if_neg (by omega)] | rw [if_pos (by omega)]) <;> (first | rw [if_pos c_10] | rw [if_neg (Bool.eq_false_iff.mp c_10)] | rw [if_neg (by omega)] | rw [if_pos (by omega)]) <;> (first | rw [if_pos c_11] | rw [if_neg (Bool.eq_false_iff.mp c_11)] | rw [if_neg (by omega)] | rw [if_pos (by omega)]) <;> (first | rw [if_pos c_13] | rw [if_neg (Bool.eq_false_iff.mp c_13)] | rw [if_neg (by omega)] | rw [if_pos (by omega)]) <;> (first | rw [if_pos c_16] | rw [if_neg (Bool.eq_false_iff.mp c_16)] | rw [if_neg (by omega)] | rw [if_pos (by omega)])), rfl⟩
    refine lv_iconst (v := (nI 2)) hx hb dX1_whyNotAdd_52 (by decide) ?_
    exact hret _ _ _ (nI 2) _ _ dX1_whyNotAdd_53 hw rfl rfl ⟨congrArg nI (by clear hret hw hl M hK hZ hx hb; unfold whyAdd; (first | rw [if_pos c_2] | rw [if_neg (Bool.eq_false_iff.mp c_2)] | rw [if_neg (by omega)] | rw [if_pos (by omega)]) <;> (first | rw [if_pos c_4] | rw [if_neg (Bool.eq_false_iff.mp c_4)] | rw [if_neg (by omega)] | rw [if_pos (by omega)]) <;> (first | rw [if_pos c_6] | rw [if_neg (Bool.eq_false_iff.mp c_6)] | rw [if_neg (by omega)] | rw [if_pos (by omega)]) <;> (first | rw [if_pos c_8] | rw [if_neg (Bool.eq_false_iff.mp c_8)] | rw [if_neg (by omega)] | rw [if_pos (by omega)]) <;> (first | rw [if_pos c_10] | rw [if_neg (Bool.eq_false_iff.mp c_10)] | rw [if_neg (by omega)] | rw [if_pos (by omega)])), rfl⟩
  refine lv_iconst (v := (nI 1)) hx hb dX1_whyNotAdd_8 (by decide) ?_
  exact hret _ _ _ (nI 1) _ _ dX1_whyNotAdd_9 hw rfl rfl ⟨congrArg nI (by clear hret hw hl M hK hZ hx hb; unfold whyAdd; (first | rw [if_pos c_2] | rw [if_neg (Bool.eq_false_iff.mp c_2)] | rw [if_neg (by omega)] | rw [if_pos (by omega)])), rfl⟩
set_option maxHeartbeats 4000000 in
set_option maxRecDepth 20000 in
theorem k_X1_whyNotDrop (l : Launch) (G : va_G) (Y : Nat → Nat) (h : Nat) (ρ : Nat → Nat) (γ : Nat → Nat → Nat) (b i : Int32) (hI : Inv ρ) : CtI l yX1_whyNotDrop cX1_whyNotDrop 3 .int 2 43 [.ref h, .int b, .int i] [aucW Y h ρ γ] (fun r sg => r = nI (whyDrop ρ b.toInt i.toInt) ∧ sg = [aucW Y h ρ γ]) G Y := by
  refine x_ofI (by decide) (Nat.le_of_ble_eq_true rfl) (fun p e s m args below meth c A ls Q M hK hZ hw hl hret => ?_)
  obtain ⟨hx, hb, -⟩ := id M
  have hl : lv_has ls 3 [(0, .ref h), (1, .int b), (2, .int i)] := hl
  have := hI.n6
  have := hI.over
  have := hI.keep
  have := hI.stepp
  refine lv_aload_n hx hb dX1_whyNotDrop_0 rfl (lv_at hl 0 rfl) ?_
  refine lv_iload_n hx hb dX1_whyNotDrop_1 rfl (lv_at hl 1 rfl) ?_
  refine x_cVI (As := [.int b]) (k_X1_noBidder l G Y h ρ γ b (hI)) cw_X1_100 [0] 0 0 M hK hZ hw hl.1 rfl (by decide) rfl rfl rfl ⟨by decide, by decide⟩ ⟨Nat.zero_le _, Nat.zero_le _⟩ rfl rfl (Nat.le_of_ble_eq_true rfl) dX1_whyNotDrop_2 (fun r sg h_1 H locs hw => ?_)
  obtain ⟨rfl, rfl⟩ := h_1
  have hw : xW G A s.heap [aucW Y h ρ γ] H locs := hw
  refine x_bne M (tgt := 22) dX1_whyNotDrop_5 (by decide) (fun c_2 => ?_) (fun c_2 => ?_)
  · refine lv_iconst (v := (nI 1)) hx hb dX1_whyNotDrop_22 (by decide) ?_
    refine lv_goto (tgt := 27) hx hb dX1_whyNotDrop_23 (by decide) ?_
    exact hret _ _ _ (nI 1) _ _ dX1_whyNotDrop_27 hw rfl rfl ⟨congrArg nI (by clear hret hw hl M hK hZ hx hb; unfold whyDrop; (first | rw [if_pos c_2] | rw [if_neg (Bool.eq_false_iff.mp c_2)] | rw [if_neg (by omega)] | rw [if_pos (by omega)])), rfl⟩
  obtain ⟨j, hj, rfl⟩ := nbf c_2
  have ej : (nI j).toInt.toNat = j := zt (by omega)
  refine lv_iload_n hx hb dX1_whyNotDrop_8 rfl (lv_at hl 2 rfl) ?_
  refine lv_iconst (v := (nI 1)) hx hb dX1_whyNotDrop_9 (by decide) ?_
  refine lv_aload_n hx hb dX1_whyNotDrop_10 rfl (lv_at hl 0 rfl) ?_
  refine x_get M hK hw 0 0 rfl rfl ff_X1_27 rfl dX1_whyNotDrop_11 ?_
  refine lv_iload_n hx hb dX1_whyNotDrop_14 rfl (lv_at hl 1 rfl) ?_
  refine x_iald M hK hw 0 6 rfl rfl (by omega) (by decide) dX1_whyNotDrop_15 ?_
  refine x_topN (n := ρ (22 + 21 * j)) (congrArg nI (pck_at (j := j) (by omega) rfl (by omega))) ?_
  have q_3 : ρ (22 + 21 * j) ≤ 3 := hI.pck (j := j) (by omega) (by omega)
  refine x_cNI (As := [.int i, .int (nI 1), .int (nI (ρ (22 + 21 * j)))]) (k_X5_outside l G Y i (nI 1) (nI (ρ (22 + 21 * j)))) cw_X1_68 [] M hK hZ hw hl.1 rfl (by decide) ⟨by decide, by decide⟩ ⟨Nat.zero_le _, Nat.zero_le _⟩ rfl rfl (Nat.le_of_ble_eq_true rfl) dX1_whyNotDrop_16 (fun r sg h_4 H locs hw => ?_)
  obtain ⟨rfl, rfl⟩ := h_4
  have hw : xW G A s.heap [aucW Y h ρ γ] H locs := hw
  refine x_topI (y := b2i (!inZ i.toInt 1 (ρ (22 + 21 * j) : Int))) (by rw [nI_toInt (n := ρ (22 + 21 * j)) (by omega)]; rfl) ?_
  refine x_beq M (tgt := 26) dX1_whyNotDrop_19 (by decide) (fun c_5 => ?_) (fun c_5 => ?_)
  · refine lv_iconst (v := (nI 0)) hx hb dX1_whyNotDrop_26 (by decide) ?_
    exact hret _ _ _ (nI 0) _ _ dX1_whyNotDrop_27 hw rfl rfl ⟨congrArg nI (by clear hret hw hl M hK hZ hx hb; unfold whyDrop; rw [ej]; (first | rw [if_pos c_2] | rw [if_neg (Bool.eq_false_iff.mp c_2)] | rw [if_neg (by omega)] | rw [if_pos (by omega)]) <;> (first | rw [if_pos c_5] | rw [if_neg (Bool.eq_false_iff.mp c_5)] | rw [if_neg (by omega)] | rw [if_pos (by omega)])), rfl⟩
  refine lv_iconst (v := (nI 1)) hx hb dX1_whyNotDrop_22 (by decide) ?_
  refine lv_goto (tgt := 27) hx hb dX1_whyNotDrop_23 (by decide) ?_
  exact hret _ _ _ (nI 1) _ _ dX1_whyNotDrop_27 hw rfl rfl ⟨congrArg nI (by clear hret hw hl M hK hZ hx hb; unfold whyDrop; rw [ej]; (first | rw [if_pos c_2] | rw [if_neg (Bool.eq_false_iff.mp c_2)] | rw [if_neg (by omega)] | rw [if_pos (by omega)]) <;> (first | rw [if_pos c_5] | rw [if_neg (Bool.eq_false_iff.mp c_5)] | rw [if_neg (by omega)] | rw [if_pos (by omega)])), rfl⟩
set_option maxHeartbeats 4000000 in
set_option maxRecDepth 20000 in
theorem k_X1_whyNotSet (l : Launch) (G : va_G) (Y : Nat → Nat) (h : Nat) (ρ : Nat → Nat) (γ : Nat → Nat → Nat) (w v : Int32) (hI : Inv ρ) : CtI l yX1_whyNotSet cX1_whyNotSet 3 .int 1 22 [.ref h, .int w, .int v] [aucW Y h ρ γ] (fun r sg => r = nI (whySet w.toInt v.toInt) ∧ sg = [aucW Y h ρ γ]) G Y := by
  refine x_ofI (by decide) (Nat.le_of_ble_eq_true rfl) (fun p e s m args below meth c A ls Q M hK hZ hw hl hret => ?_)
  obtain ⟨hx, hb, -⟩ := id M
  have hl : lv_has ls 3 [(0, .ref h), (1, .int w), (2, .int v)] := hl
  have := hI.n6
  have := hI.over
  have := hI.keep
  have := hI.stepp
  refine lv_iload_n hx hb dX1_whyNotSet_0 rfl (lv_at hl 1 rfl) ?_
  refine lv_if_ne (tgt := 21) hx hb dX1_whyNotSet_1 (by decide) (fun c_1 => ?_) (fun c_1 => ?_)
  · refine lv_iload_n hx hb dX1_whyNotSet_21 rfl (lv_at hl 1 rfl) ?_
    refine lv_iconst (v := (nI 1)) hx hb dX1_whyNotSet_22 (by decide) ?_
    refine lv_icmp_ne (tgt := 36) hx hb dX1_whyNotSet_23 (by decide) (fun c_2 => ?_) (fun c_2 => ?_)
    · refine lv_iconst (v := (nI 2)) hx hb dX1_whyNotSet_36 (by decide) ?_
      refine lv_goto (tgt := 41) hx hb dX1_whyNotSet_37 (by decide) ?_
      rw [← Int32.toInt_inj] at c_1
      rw [← Int32.toInt_inj] at c_2
      rw [show (0 : Int32).toInt = 0 from rfl] at c_1
      rw [show (nI 1).toInt = 1 from rfl] at c_2
      exact hret _ _ _ (nI 2) _ _ dX1_whyNotSet_41 hw rfl rfl ⟨congrArg nI (by clear hret hw hl M hK hZ hx hb; unfold whySet; (first | rw [if_pos c_1] | rw [if_neg (Bool.eq_false_iff.mp c_1)] | rw [if_neg (by omega)] | rw [if_pos (by omega)]) <;> (first | rw [if_pos c_2] | rw [if_neg (Bool.eq_false_iff.mp c_2)] | rw [if_neg (by omega)] | rw [if_pos (by omega)])), rfl⟩
    refine lv_iload_n hx hb dX1_whyNotSet_26 rfl (lv_at hl 2 rfl) ?_
    refine lv_iconst (v := (nI 1)) hx hb dX1_whyNotSet_27 (by decide) ?_
    refine lv_bipush (v := (nI 50)) hx hb dX1_whyNotSet_28 (by decide) ?_
    refine x_cNI (As := [.int v, .int (nI 1), .int (nI 50)]) (k_X5_outside l G Y v (nI 1) (nI 50)) cw_X1_68 [] M hK hZ hw hl.1 rfl (by decide) ⟨by decide, by decide⟩ ⟨Nat.zero_le _, Nat.zero_le _⟩ rfl rfl (Nat.le_of_ble_eq_true rfl) dX1_whyNotSet_30 (fun r sg h_3 H locs hw => ?_)
    obtain ⟨rfl, rfl⟩ := h_3
    have hw : xW G A s.heap [aucW Y h ρ γ] H locs := hw
    refine x_topI (y := b2i (!inZ v.toInt 1 50)) rfl ?_
    refine x_beq M (tgt := 40) dX1_whyNotSet_33 (by decide) (fun c_4 => ?_) (fun c_4 => ?_)
    · refine lv_iconst (v := (nI 0)) hx hb dX1_whyNotSet_40 (by decide) ?_
      rw [← Int32.toInt_inj] at c_1
      rw [← Int32.toInt_inj] at c_2
      rw [show (0 : Int32).toInt = 0 from rfl] at c_1
      rw [show (nI 1).toInt = 1 from rfl] at c_2
      exact hret _ _ _ (nI 0) _ _ dX1_whyNotSet_41 hw rfl rfl ⟨congrArg nI (by clear hret hw hl M hK hZ hx hb; unfold whySet; (first | rw [if_pos c_1] | rw [if_neg (Bool.eq_false_iff.mp c_1)] | rw [if_neg (by omega)] | rw [if_pos (by omega)]) <;> (first | rw [if_pos c_2] | rw [if_neg (Bool.eq_false_iff.mp c_2)] | rw [if_neg (by omega)] | rw [if_pos (by omega)]) <;> (first | rw [if_pos c_4] | rw [if_neg (Bool.eq_false_iff.mp c_4)] | rw [if_neg (by omega)] | rw [if_pos (by omega)])), rfl⟩
    refine lv_iconst (v := (nI 2)) hx hb dX1_whyNotSet_36 (by decide) ?_
    refine lv_goto (tgt := 41) hx hb dX1_whyNotSet_37 (by decide) ?_
    rw [← Int32.toInt_inj] at c_1
    rw [← Int32.toInt_inj] at c_2
    rw [show (0 : Int32).toInt = 0 from rfl] at c_1
    rw [show (nI 1).toInt = 1 from rfl] at c_2
    exact hret _ _ _ (nI 2) _ _ dX1_whyNotSet_41 hw rfl rfl ⟨congrArg nI (by clear hret hw hl M hK hZ hx hb; unfold whySet; (first | rw [if_pos c_1] | rw [if_neg (Bool.eq_false_iff.mp c_1)] | rw [if_neg (by omega)] | rw [if_pos (by omega)]) <;> (first | rw [if_pos c_2] | rw [if_neg (Bool.eq_false_iff.mp c_2)] | rw [if_neg (by omega)] | rw [if_pos (by omega)]) <;> (first | rw [if_pos c_4] | rw [if_neg (Bool.eq_false_iff.mp c_4)] | rw [if_neg (by omega)] | rw [if_pos (by omega)])), rfl⟩
  refine lv_iload_n hx hb dX1_whyNotSet_4 rfl (lv_at hl 2 rfl) ?_
  refine lv_bipush (v := (nI 50)) hx hb dX1_whyNotSet_5 (by decide) ?_
  refine lv_bipush (v := (nI 100)) hx hb dX1_whyNotSet_7 (by decide) ?_
  refine x_cNI (As := [.int v, .int (nI 50), .int (nI 100)]) (k_X5_outside l G Y v (nI 50) (nI 100)) cw_X1_68 [] M hK hZ hw hl.1 rfl (by decide) ⟨by decide, by decide⟩ ⟨Nat.zero_le _, Nat.zero_le _⟩ rfl rfl (Nat.le_of_ble_eq_true rfl) dX1_whyNotSet_9 (fun r sg h_5 H locs hw => ?_)
  obtain ⟨rfl, rfl⟩ := h_5
  have hw : xW G A s.heap [aucW Y h ρ γ] H locs := hw
  refine x_topI (y := b2i (!inZ v.toInt 50 100)) rfl ?_
  refine x_beq M (tgt := 19) dX1_whyNotSet_12 (by decide) (fun c_6 => ?_) (fun c_6 => ?_)
  · refine lv_iconst (v := (nI 0)) hx hb dX1_whyNotSet_19 (by decide) ?_
    rw [← Int32.toInt_inj] at c_1
    rw [show (0 : Int32).toInt = 0 from rfl] at c_1
    exact hret _ _ _ (nI 0) _ _ dX1_whyNotSet_20 hw rfl rfl ⟨congrArg nI (by clear hret hw hl M hK hZ hx hb; unfold whySet; (first | rw [if_pos c_1] | rw [if_neg (Bool.eq_false_iff.mp c_1)] | rw [if_neg (by omega)] | rw [if_pos (by omega)]) <;> (first | rw [if_pos c_6] | rw [if_neg (Bool.eq_false_iff.mp c_6)] | rw [if_neg (by omega)] | rw [if_pos (by omega)])), rfl⟩
  refine lv_iconst (v := (nI 2)) hx hb dX1_whyNotSet_15 (by decide) ?_
  refine lv_goto (tgt := 20) hx hb dX1_whyNotSet_16 (by decide) ?_
  rw [← Int32.toInt_inj] at c_1
  rw [show (0 : Int32).toInt = 0 from rfl] at c_1
  exact hret _ _ _ (nI 2) _ _ dX1_whyNotSet_20 hw rfl rfl ⟨congrArg nI (by clear hret hw hl M hK hZ hx hb; unfold whySet; (first | rw [if_pos c_1] | rw [if_neg (Bool.eq_false_iff.mp c_1)] | rw [if_neg (by omega)] | rw [if_pos (by omega)]) <;> (first | rw [if_pos c_6] | rw [if_neg (Bool.eq_false_iff.mp c_6)] | rw [if_neg (by omega)] | rw [if_pos (by omega)])), rfl⟩
