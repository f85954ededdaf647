theorem cw_J0_492 : xcV RJ0 492 yJ0_isLatin1_aae02 cJ0_isLatin1_aae02 1 (some .boolean) 0 := xcV_of mw_507 mw_508 mw_509 mw_11 mw_510 (by decide) (by decide +kernel)
theorem cw_J0_495 : xcS RJ0 495 yJ1_charAt_3b067 cJ1_charAt_3b067 2 (some .char) 2 := xcS_of mw_609 mw_610 mw_12 mw_611 (by decide) (by decide +kernel)
theorem cw_J0_1059 : xcS RJ0 1059 yJ3_checkIndex_8e157 cJ3_checkIndex_8e157 3 (some .int) 3 := xcS_of mw_615 mw_616 mw_15 mw_617 (by decide) (by decide +kernel)
theorem cw_J0_633 : xcV RJ0 633 yJ0_indexOf_7cf53 cJ0_indexOf_7cf53 3 (some .int) 2 := xcV_of mw_503 mw_504 mw_505 mw_11 mw_506 (by decide) (by decide +kernel)
theorem cw_J0_505 : xcV RJ0 505 yJ0_length_8abf5 cJ0_length_8abf5 1 (some .int) 0 := xcV_of mw_513 mw_514 mw_515 mw_11 mw_516 (by decide) (by decide +kernel)
theorem cw_J0_637 : xcS RJ0 637 yJ1_indexOf_4cfef cJ1_indexOf_4cfef 4 (some .int) 4 := xcS_of mw_521 mw_522 mw_12 mw_523 (by decide) (by decide +kernel)
theorem cw_J0_335 : xcV RJ0 335 yJ0_coder_7d493 cJ0_coder_7d493 1 (some .byte) 0 := xcV_of mw_517 mw_518 mw_519 mw_11 mw_520 (by decide) (by decide +kernel)
theorem cw_J1_9 : xcS RJ1 9 yJ0_checkIndex_df160 cJ0_checkIndex_df160 2 none 2 := xcS_of mw_612 mw_613 mw_11 mw_614 (by decide) (by decide +kernel)
theorem cw_J1_88 : xcS RJ1 88 yJ1_canEncode_9a6ad cJ1_canEncode_9a6ad 1 (some .boolean) 1 := xcS_of mw_524 mw_525 mw_12 mw_526 (by decide) (by decide +kernel)
theorem cw_J1_95 : xcS RJ1 95 yJ1_indexOfChar_4cfef cJ1_indexOfChar_4cfef 6 (some .int) 4 := xcS_of mw_529 mw_530 mw_12 mw_531 (by decide) (by decide +kernel)
theorem cw_X4_65 : xcV RX4 65 yJ0_indexOf_0f7a4 cJ0_indexOf_0f7a4 2 (some .int) 1 := xcV_of mw_499 mw_500 mw_501 mw_11 mw_502 (by decide) (by decide +kernel)
theorem cw_X4_75 : xcV RX4 75 yJ0_length_8abf5 cJ0_length_8abf5 1 (some .int) 0 := xcV_of mw_593 mw_514 mw_515 mw_11 mw_516 (by decide) (by decide +kernel)
theorem cw_X4_81 : xcV RX4 81 yJ0_charAt_5068e cJ0_charAt_5068e 2 (some .char) 1 := xcV_of mw_605 mw_606 mw_607 mw_11 mw_608 (by decide) (by decide +kernel)
theorem nI_injN {a b : Nat} (h : nI a = nI b) (ha : a < 2 ^ 31) (hb : b < 2 ^ 31) : a = b := by have := congrArg Int32.toInt h; rw [nI_toInt ha, nI_toInt hb] at this; omega
set_option maxHeartbeats 4000000 in
set_option maxRecDepth 20000 in
theorem k_J0_coder_7d493 (l : Launch) (G : va_G) (Y : Nat → Nat) (i : Nat) (hi : i < 12) : CtI l yJ0_coder_7d493 cJ0_coder_7d493 1 .byte 0 0 [.ref (Y (200 + i))] [] (fun r sg => r = nI 0 ∧ sg = []) G Y := by
  refine x_ofI (by decide) (Nat.le_of_ble_eq_true rfl) (fun p e s m args below meth c A ls Q M hK hZ hw hl hret => ?_)
  obtain ⟨hx, hb, -⟩ := id M
  have hl : lv_has ls 1 [(0, .ref (Y (200 + i)))] := hl
  refine x_compact M hZ hw mw_511 dJ0_coder_7d493_0 ?_
  refine x_zeq M (tgt := 13) (by decide) dJ0_coder_7d493_3 (by decide) (fun c_1 => absurd c_1 (by decide)) (fun c_1 => ?_)
  refine lv_aload_n hx hb dJ0_coder_7d493_6 rfl (lv_at hl 0 rfl) ?_
  refine x_coder (i := i) M hZ hw hi mw_1020 dJ0_coder_7d493_7 ?_
  refine lv_goto (tgt := 14) hx hb dJ0_coder_7d493_10 (by decide) ?_
  exact hret _ _ _ (nI 0) _ _ dJ0_coder_7d493_14 hw rfl rfl ⟨rfl, rfl⟩
set_option maxHeartbeats 4000000 in
set_option maxRecDepth 20000 in
theorem k_J0_isLatin1_aae02 (l : Launch) (G : va_G) (Y : Nat → Nat) (i : Nat) (hi : i < 12) : CtI l yJ0_isLatin1_aae02 cJ0_isLatin1_aae02 1 .boolean 0 0 [.ref (Y (200 + i))] [] (fun r sg => r = nI 1 ∧ sg = []) G Y := by
  refine x_ofI (by decide) (Nat.le_of_ble_eq_true rfl) (fun p e s m args below meth c A ls Q M hK hZ hw hl hret => ?_)
  obtain ⟨hx, hb, -⟩ := id M
  have hl : lv_has ls 1 [(0, .ref (Y (200 + i)))] := hl
  refine x_compact M hZ hw mw_511 dJ0_isLatin1_aae02_0 ?_
  refine x_zeq M (tgt := 17) (by decide) dJ0_isLatin1_aae02_3 (by decide) (fun c_1 => absurd c_1 (by decide)) (fun c_1 => ?_)
  refine lv_aload_n hx hb dJ0_isLatin1_aae02_6 rfl (lv_at hl 0 rfl) ?_
  refine x_coder (i := i) M hZ hw hi mw_1020 dJ0_isLatin1_aae02_7 ?_
  refine x_zne M (tgt := 17) (by decide) dJ0_isLatin1_aae02_10 (by decide) (fun c_2 => absurd c_2 (by decide)) (fun c_2 => ?_)
  refine lv_iconst (v := (nI 1)) hx hb dJ0_isLatin1_aae02_13 (by decide) ?_
  refine lv_goto (tgt := 18) hx hb dJ0_isLatin1_aae02_14 (by decide) ?_
  exact hret _ _ _ (nI 1) _ _ dJ0_isLatin1_aae02_18 hw rfl rfl ⟨rfl, rfl⟩
set_option maxHeartbeats 4000000 in
set_option maxRecDepth 20000 in
theorem k_J0_length_8abf5 (l : Launch) (G : va_G) (Y : Nat → Nat) (i : Nat) (hi : i < 12) : CtI l yJ0_length_8abf5 cJ0_length_8abf5 1 .int 1 20 [.ref (Y (200 + i))] [] (fun r sg => r = nI (xLen.getD i 0) ∧ sg = []) G Y := by
  refine x_ofI (by decide) (Nat.le_of_ble_eq_true rfl) (fun p e s m args below meth c A ls Q M hK hZ hw hl hret => ?_)
  obtain ⟨hx, hb, -⟩ := id M
  have hl : lv_has ls 1 [(0, .ref (Y (200 + i)))] := hl
  refine lv_aload_n hx hb dJ0_length_8abf5_0 rfl (lv_at hl 0 rfl) ?_
  refine x_sval (i := i) M hZ hw hi mw_1021 dJ0_length_8abf5_1 ?_
  refine x_slen (i := i) M hZ hw hi dJ0_length_8abf5_4 ?_
  refine lv_aload_n hx hb dJ0_length_8abf5_5 rfl (lv_at hl 0 rfl) ?_
  refine x_cTI (i := i) (As := []) (k_J0_coder_7d493 l G Y i (hi)) cw_J0_335 hi rfl [] M hK hZ hw hl.1 rfl (by decide) ⟨by decide, by decide⟩ ⟨Nat.zero_le _, Nat.zero_le _⟩ rfl rfl (Nat.le_of_ble_eq_true rfl) dJ0_length_8abf5_6 (fun r sg h_1 H locs hw => ?_)
  obtain ⟨rfl, rfl⟩ := h_1
  have hw : xW G A s.heap [] H locs := hw
  refine lv_ishr hx hb dJ0_length_8abf5_9 ?_
  refine x_topN (n := xLen.getD i 0) (by rw [show nI 0 &&& (31 : Int32) = 0 from rfl]; exact Int32.shiftRight_zero) ?_
  exact hret _ _ _ (nI (xLen.getD i 0)) _ _ dJ0_length_8abf5_10 hw rfl rfl ⟨rfl, rfl⟩
set_option maxHeartbeats 4000000 in
set_option maxRecDepth 20000 in
theorem k_J3_checkIndex_n (l : Launch) (G : va_G) (Y : Nat → Nat) (i n : Nat) (g0 : i < n) (g1 : n < 2 ^ 31) : CtI l yJ3_checkIndex_8e157 cJ3_checkIndex_8e157 3 .int 0 0 [.int (nI i), .int (nI n), .null] [] (fun r sg => r = nI i ∧ sg = []) G Y := by
  refine x_ofI (by decide) (Nat.le_of_ble_eq_true rfl) (fun p e s m args below meth c A ls Q M hK hZ hw hl hret => ?_)
  obtain ⟨hx, hb, -⟩ := id M
  have hl : lv_has ls 3 [(0, .int (nI i)), (1, .int (nI n)), (2, .null)] := hl
  refine lv_iload_n hx hb dJ3_checkIndex_8e157_0 rfl (lv_at hl 0 rfl) ?_
  refine x_zlt M (tgt := 9) (by omega) dJ3_checkIndex_8e157_1 (by decide) ?_
  refine lv_iload_n hx hb dJ3_checkIndex_8e157_4 rfl (lv_at hl 0 rfl) ?_
  refine lv_iload_n hx hb dJ3_checkIndex_8e157_5 rfl (lv_at hl 1 rfl) ?_
  refine x_clt M (tgt := 16) (by omega) (by omega) dJ3_checkIndex_8e157_6 (by decide) (fun c_1 => ?_) (fun c_1 => absurd c_1 (by omega))
  refine lv_iload_n hx hb dJ3_checkIndex_8e157_16 rfl (lv_at hl 0 rfl) ?_
  exact hret _ _ _ (nI i) _ _ dJ3_checkIndex_8e157_17 hw rfl rfl ⟨rfl, rfl⟩
set_option maxHeartbeats 4000000 in
set_option maxRecDepth 20000 in
theorem k_J3_checkIndex_r (l : Launch) (G : va_G) (Y : Nat → Nat) (i n tq : Nat) (g0 : i < n) (g1 : n < 2 ^ 31) : CtI l yJ3_checkIndex_8e157 cJ3_checkIndex_8e157 3 .int 0 0 [.int (nI i), .int (nI n), .ref tq] [] (fun r sg => r = nI i ∧ sg = []) G Y := by
  refine x_ofI (by decide) (Nat.le_of_ble_eq_true rfl) (fun p e s m args below meth c A ls Q M hK hZ hw hl hret => ?_)
  obtain ⟨hx, hb, -⟩ := id M
  have hl : lv_has ls 3 [(0, .int (nI i)), (1, .int (nI n)), (2, .ref tq)] := hl
  refine lv_iload_n hx hb dJ3_checkIndex_8e157_0 rfl (lv_at hl 0 rfl) ?_
  refine x_zlt M (tgt := 9) (by omega) dJ3_checkIndex_8e157_1 (by decide) ?_
  refine lv_iload_n hx hb dJ3_checkIndex_8e157_4 rfl (lv_at hl 0 rfl) ?_
  refine lv_iload_n hx hb dJ3_checkIndex_8e157_5 rfl (lv_at hl 1 rfl) ?_
  refine x_clt M (tgt := 16) (by omega) (by omega) dJ3_checkIndex_8e157_6 (by decide) (fun c_1 => ?_) (fun c_1 => absurd c_1 (by omega))
  refine lv_iload_n hx hb dJ3_checkIndex_8e157_16 rfl (lv_at hl 0 rfl) ?_
  exact hret _ _ _ (nI i) _ _ dJ3_checkIndex_8e157_17 hw rfl rfl ⟨rfl, rfl⟩
set_option maxHeartbeats 4000000 in
set_option maxRecDepth 20000 in
theorem k_J0_checkIndex_df160 (l : Launch) (G : va_G) (Y : Nat → Nat) (i n : Nat) (g0 : i < n) (g1 : n < 2 ^ 31) : CtV l yJ0_checkIndex_df160 cJ0_checkIndex_df160 2 1 22 [.int (nI i), .int (nI n)] [] (fun sg => sg = []) G Y := by
  refine x_ofV (by decide) (Nat.le_of_ble_eq_true rfl) (fun p e s m args below meth c A ls Q M hK hZ hw hl hret => ?_)
  obtain ⟨hx, hb, -⟩ := id M
  have hl : lv_has ls 2 [(0, .int (nI i)), (1, .int (nI n))] := hl
  refine lv_iload_n hx hb dJ0_checkIndex_df160_0 rfl (lv_at hl 0 rfl) ?_
  refine lv_iload_n hx hb dJ0_checkIndex_df160_1 rfl (lv_at hl 1 rfl) ?_
  rcases hZ.2.2.2.2 with hz | ⟨tq, hz⟩
  · refine va_gets hx hb hz hw.2.2.1 M.2.2.2.1 (M.2.2.2.2 _ mw_550) (fun _ h => h) dJ0_checkIndex_df160_2 ?_
    refine x_cSI (As := [.int (nI i), .int (nI n), .null]) (k_J3_checkIndex_n l G Y i n (by omega) (by omega)) cw_J0_1059 [] M hK hZ hw hl.1 rfl (by decide) ⟨by decide, by decide⟩ ⟨Nat.zero_le _, Nat.zero_le _⟩ rfl rfl (Nat.le_of_ble_eq_true rfl) dJ0_checkIndex_df160_5 (fun r sg h_1 H locs hw => ?_)
    obtain ⟨rfl, rfl⟩ := h_1
    have hw : xW G A s.heap [] H locs := hw
    refine lv_pop hx hb dJ0_checkIndex_df160_8 rfl ?_
    exact hret _ _ _ _ _ dJ0_checkIndex_df160_9 hw rfl rfl
  · refine va_gets hx hb hz hw.2.2.1 M.2.2.2.1 (M.2.2.2.2 _ mw_550) (fun _ h => h) dJ0_checkIndex_df160_2 ?_
    refine x_cSI (As := [.int (nI i), .int (nI n), .ref tq]) (k_J3_checkIndex_r l G Y i n tq (by omega) (by omega)) cw_J0_1059 [] M hK hZ hw hl.1 rfl (by decide) ⟨by decide, by decide⟩ ⟨Nat.zero_le _, Nat.zero_le _⟩ rfl rfl (Nat.le_of_ble_eq_true rfl) dJ0_checkIndex_df160_5 (fun r sg h_2 H locs hw => ?_)
    obtain ⟨rfl, rfl⟩ := h_2
    have hw : xW G A s.heap [] H locs := hw
    refine lv_pop hx hb dJ0_checkIndex_df160_8 rfl ?_
    exact hret _ _ _ _ _ dJ0_checkIndex_df160_9 hw rfl rfl
set_option maxHeartbeats 4000000 in
set_option maxRecDepth 20000 in
theorem k_J1_charAt_3b067 (l : Launch) (G : va_G) (Y : Nat → Nat) (i j : Nat) (hi : i < 12) (hj : j < xLen.getD i 0) : CtI l yJ1_charAt_3b067 cJ1_charAt_3b067 2 .char 2 43 [.ref (Y (300 + i)), .int (nI j)] [] (fun r sg => r = nI (chS i j) ∧ sg = []) G Y := by
  refine x_ofI (by decide) (Nat.le_of_ble_eq_true rfl) (fun p e s m args below meth c A ls Q M hK hZ hw hl hret => ?_)
  obtain ⟨hx, hb, -⟩ := id M
  have hl : lv_has ls 2 [(0, .ref (Y (300 + i))), (1, .int (nI j))] := hl
  have hx6 := xLen_le i hi
  have hch7 := chS_le i hi j (by omega)
  refine lv_iload_n hx hb dJ1_charAt_3b067_0 rfl (lv_at hl 1 rfl) ?_
  refine lv_aload_n hx hb dJ1_charAt_3b067_1 rfl (lv_at hl 0 rfl) ?_
  refine x_slen (i := i) M hZ hw hi dJ1_charAt_3b067_2 ?_
  refine x_cSV (As := [.int (nI j), .int (nI (xLen.getD i 0))]) (k_J0_checkIndex_df160 l G Y j (xLen.getD i 0) (by omega) (by omega)) cw_J1_9 [] M hK hZ hw hl.1 rfl (by decide) ⟨by decide, by decide⟩ ⟨Nat.zero_le _, Nat.zero_le _⟩ rfl rfl (Nat.le_of_ble_eq_true rfl) dJ1_charAt_3b067_3 (fun sg h_1 H locs hw => ?_)
  obtain rfl := h_1
  have hw : xW G A s.heap [] H locs := hw
  refine lv_aload_n hx hb dJ1_charAt_3b067_6 rfl (lv_at hl 0 rfl) ?_
  refine lv_iload_n hx hb dJ1_charAt_3b067_7 rfl (lv_at hl 1 rfl) ?_
  refine x_sbyt (i := i) M hZ hw hi (by omega) (by omega) dJ1_charAt_3b067_8 ?_
  refine lv_sipush (v := (nI 255)) hx hb dJ1_charAt_3b067_9 (by decide) ?_
  refine lv_iand hx hb dJ1_charAt_3b067_12 ?_
  refine lv_i2c (v := (nI (chS i j))) hx hb dJ1_charAt_3b067_13 (chS_v i hi j (by omega)) ?_
  exact hret _ _ _ (nI (chS i j)) _ _ dJ1_charAt_3b067_14 hw (pk_charN (by omega)).1 rfl ⟨rfl, rfl⟩
set_option maxHeartbeats 4000000 in
set_option maxRecDepth 20000 in
theorem k_J0_charAt_5068e (l : Launch) (G : va_G) (Y : Nat → Nat) (i j : Nat) (hi : i < 12) (hj : j < xLen.getD i 0) : CtI l yJ0_charAt_5068e cJ0_charAt_5068e 2 .char 3 64 [.ref (Y (200 + i)), .int (nI j)] [] (fun r sg => r = nI (chS i j) ∧ sg = []) G Y := by
  refine x_ofI (by decide) (Nat.le_of_ble_eq_true rfl) (fun p e s m args below meth c A ls Q M hK hZ hw hl hret => ?_)
  obtain ⟨hx, hb, -⟩ := id M
  have hl : lv_has ls 2 [(0, .ref (Y (200 + i))), (1, .int (nI j))] := hl
  have hx6 := xLen_le i hi
  have hch7 := chS_le i hi j (by omega)
  refine lv_aload_n hx hb dJ0_charAt_5068e_0 rfl (lv_at hl 0 rfl) ?_
  refine x_cTI (i := i) (As := []) (k_J0_isLatin1_aae02 l G Y i (hi)) cw_J0_492 hi rfl [] M hK hZ hw hl.1 rfl (by decide) ⟨by decide, by decide⟩ ⟨Nat.zero_le _, Nat.zero_le _⟩ rfl rfl (Nat.le_of_ble_eq_true rfl) dJ0_charAt_5068e_1 (fun r sg h_1 H locs hw => ?_)
  obtain ⟨rfl, rfl⟩ := h_1
  have hw : xW G A s.heap [] H locs := hw
  refine x_zeq M (tgt := 16) (by decide) dJ0_charAt_5068e_4 (by decide) (fun c_2 => absurd c_2 (by decide)) (fun c_2 => ?_)
  refine lv_aload_n hx hb dJ0_charAt_5068e_7 rfl (lv_at hl 0 rfl) ?_
  refine x_sval (i := i) M hZ hw hi mw_1021 dJ0_charAt_5068e_8 ?_
  refine lv_iload_n hx hb dJ0_charAt_5068e_11 rfl (lv_at hl 1 rfl) ?_
  refine x_cSI (As := [.ref (Y (300 + i)), .int (nI j)]) (k_J1_charAt_3b067 l G Y i j (by omega) (by omega)) cw_J0_495 [] M hK hZ hw hl.1 rfl (by decide) ⟨by decide, by decide⟩ ⟨Nat.zero_le _, Nat.zero_le _⟩ rfl rfl (Nat.le_of_ble_eq_true rfl) dJ0_charAt_5068e_12 (fun r sg h_3 H locs hw => ?_)
  obtain ⟨rfl, rfl⟩ := h_3
  have hw : xW G A s.heap [] H locs := hw
  exact hret _ _ _ (nI (chS i j)) _ _ dJ0_charAt_5068e_15 hw (pk_charN (by omega)).1 rfl ⟨rfl, rfl⟩
set_option maxHeartbeats 4000000 in
set_option maxRecDepth 20000 in
theorem k_J1_canEncode_9a6ad (l : Launch) (G : va_G) (Y : Nat → Nat) (ch : Nat) (hc : ch < 256) : CtI l yJ1_canEncode_9a6ad cJ1_canEncode_9a6ad 1 .boolean 0 0 [.int (nI ch)] [] (fun r sg => r = nI 1 ∧ sg = []) G Y := by
  refine x_ofI (by decide) (Nat.le_of_ble_eq_true rfl) (fun p e s m args below meth c A ls Q M hK hZ hw hl hret => ?_)
  obtain ⟨hx, hb, -⟩ := id M
  have hl : lv_has ls 1 [(0, .int (nI ch))] := hl
  refine lv_iload_n hx hb dJ1_canEncode_9a6ad_0 rfl (lv_at hl 0 rfl) ?_
  refine x_zlt M (tgt := 15) (by omega) dJ1_canEncode_9a6ad_1 (by decide) ?_
  refine lv_iload_n hx hb dJ1_canEncode_9a6ad_4 rfl (lv_at hl 0 rfl) ?_
  refine lv_sipush (v := (nI 255)) hx hb dJ1_canEncode_9a6ad_5 (by decide) ?_
  refine x_cgt M (tgt := 15) (by omega) (by decide) dJ1_canEncode_9a6ad_8 (by decide) (fun c_1 => absurd c_1 (by omega)) (fun c_1 => ?_)
  refine lv_iconst (v := (nI 1)) hx hb dJ1_canEncode_9a6ad_11 (by decide) ?_
  refine lv_goto (tgt := 16) hx hb dJ1_canEncode_9a6ad_12 (by decide) ?_
  exact hret _ _ _ (nI 1) _ _ dJ1_canEncode_9a6ad_16 hw rfl rfl ⟨rfl, rfl⟩
set_option maxHeartbeats 4000000 in
set_option maxRecDepth 20000 in
theorem k_J1_indexOfChar_4cfef (l : Launch) (G : va_G) (Y : Nat → Nat) (ch : Nat) (hc : ch < 256) : CtI l yJ1_indexOfChar_4cfef cJ1_indexOfChar_4cfef 6 .int 0 0 [.ref (Y (300 + 0)), .int (nI ch), .int (nI 0), .int (nI 6)] [] (fun r sg => r = mw (idxC ch) ∧ sg = []) G Y := by
  refine x_ofI (by decide) (Nat.le_of_ble_eq_true rfl) (fun p e s m args below meth c A ls Q M hK hZ hw hl hret => ?_)
  obtain ⟨hx, hb, -⟩ := id M
  have hl : lv_has ls 6 [(0, .ref (Y (300 + 0))), (1, .int (nI ch)), (2, .int (nI 0)), (3, .int (nI 6))] := hl
  refine lv_iload_n hx hb dJ1_indexOfChar_4cfef_0 rfl (lv_at hl 1 rfl) ?_
  refine lv_i2b hx hb dJ1_indexOfChar_4cfef_1 rfl ?_
  refine lv_istore (lv' := [(4, .int ((nI ch).toInt8.toInt32)), (0, .ref (Y (300 + 0))), (1, .int (nI ch)), (2, .int (nI 0)), (3, .int (nI 6))]) hx hb dJ1_indexOfChar_4cfef_2 hl (by decide) rfl (fun ls hl => ?_)
  refine lv_iload_n hx hb dJ1_indexOfChar_4cfef_4 rfl (lv_at hl 3 rfl) ?_
  refine lv_istore (lv' := [(5, .int (nI 0)), (4, .int ((nI ch).toInt8.toInt32)), (0, .ref (Y (300 + 0))), (1, .int (nI ch)), (2, .int (nI 0)), (3, .int (nI 6))]) hx hb dJ1_indexOfChar_4cfef_5 hl (by decide) rfl (fun ls hl => ?_)
  refine lv_iload hx hb dJ1_indexOfChar_4cfef_7 (lv_at hl 0 rfl) ?_
  refine lv_iload_n hx hb dJ1_indexOfChar_4cfef_9 rfl (lv_at hl 5 rfl) ?_
  refine x_cge M (tgt := 31) (by decide) (by decide) dJ1_indexOfChar_4cfef_10 (by decide) (fun c_1 => absurd c_1 (by decide)) (fun c_1 => ?_)
  refine lv_aload_n hx hb dJ1_indexOfChar_4cfef_13 rfl (lv_at hl 2 rfl) ?_
  refine lv_iload hx hb dJ1_indexOfChar_4cfef_14 (lv_at hl 0 rfl) ?_
  refine x_sbyt (i := 0) M hZ hw (by decide) (by decide) (by decide) dJ1_indexOfChar_4cfef_16 ?_
  refine lv_iload hx hb dJ1_indexOfChar_4cfef_17 (lv_at hl 1 rfl) ?_
  refine lv_icmp_ne (tgt := 25) hx hb dJ1_indexOfChar_4cfef_19 (by decide) (fun c_2 => ?_) (fun c_2 => ?_)
  · have : ch ≠ 115 := fun z => c_2 ((i2b_c ch hc 0 (by decide)).mpr z)
    refine lv_iinc (v := (nI 1)) (lv' := [(5, .int (nI 1)), (4, .int ((nI ch).toInt8.toInt32)), (0, .ref (Y (300 + 0))), (1, .int (nI ch)), (2, .int (nI 0)), (3, .int (nI 6))]) hx hb dJ1_indexOfChar_4cfef_25 hl (k := 0) rfl (by decide) (by decide) rfl (fun ls hl => ?_)
    refine lv_goto (tgt := 7) hx hb dJ1_indexOfChar_4cfef_28 (by decide) ?_
    refine lv_iload hx hb dJ1_indexOfChar_4cfef_7 (lv_at hl 0 rfl) ?_
    refine lv_iload_n hx hb dJ1_indexOfChar_4cfef_9 rfl (lv_at hl 5 rfl) ?_
    refine x_cge M (tgt := 31) (by decide) (by decide) dJ1_indexOfChar_4cfef_10 (by decide) (fun c_3 => absurd c_3 (by decide)) (fun c_3 => ?_)
    refine lv_aload_n hx hb dJ1_indexOfChar_4cfef_13 rfl (lv_at hl 2 rfl) ?_
    refine lv_iload hx hb dJ1_indexOfChar_4cfef_14 (lv_at hl 0 rfl) ?_
    refine x_sbyt (i := 0) M hZ hw (by decide) (by decide) (by decide) dJ1_indexOfChar_4cfef_16 ?_
    refine lv_iload hx hb dJ1_indexOfChar_4cfef_17 (lv_at hl 1 rfl) ?_
    refine lv_icmp_ne (tgt := 25) hx hb dJ1_indexOfChar_4cfef_19 (by decide) (fun c_4 => ?_) (fun c_4 => ?_)
    · have : ch ≠ 98 := fun z => c_4 ((i2b_c ch hc 1 (by decide)).mpr z)
      refine lv_iinc (v := (nI 2)) (lv' := [(5, .int (nI 2)), (4, .int ((nI ch).toInt8.toInt32)), (0, .ref (Y (300 + 0))), (1, .int (nI ch)), (2, .int (nI 0)), (3, .int (nI 6))]) hx hb dJ1_indexOfChar_4cfef_25 hl (k := 0) rfl (by decide) (by decide) rfl (fun ls hl => ?_)
      refine lv_goto (tgt := 7) hx hb dJ1_indexOfChar_4cfef_28 (by decide) ?_
      refine lv_iload hx hb dJ1_indexOfChar_4cfef_7 (lv_at hl 0 rfl) ?_
      refine lv_iload_n hx hb dJ1_indexOfChar_4cfef_9 rfl (lv_at hl 5 rfl) ?_
      refine x_cge M (tgt := 31) (by decide) (by decide) dJ1_indexOfChar_4cfef_10 (by decide) (fun c_5 => absurd c_5 (by decide)) (fun c_5 => ?_)
      refine lv_aload_n hx hb dJ1_indexOfChar_4cfef_13 rfl (lv_at hl 2 rfl) ?_
      refine lv_iload hx hb dJ1_indexOfChar_4cfef_14 (lv_at hl 0 rfl) ?_
      refine x_sbyt (i := 0) M hZ hw (by decide) (by decide) (by decide) dJ1_indexOfChar_4cfef_16 ?_
      refine lv_iload hx hb dJ1_indexOfChar_4cfef_17 (lv_at hl 1 rfl) ?_
      refine lv_icmp_ne (tgt := 25) hx hb dJ1_indexOfChar_4cfef_19 (by decide) (fun c_6 => ?_) (fun c_6 => ?_)
      · have : ch ≠ 118 := fun z => c_6 ((i2b_c ch hc 2 (by decide)).mpr z)
        refine lv_iinc (v := (nI 3)) (lv' := [(5, .int (nI 3)), (4, .int ((nI ch).toInt8.toInt32)), (0, .ref (Y (300 + 0))), (1, .int (nI ch)), (2, .int (nI 0)), (3, .int (nI 6))]) hx hb dJ1_indexOfChar_4cfef_25 hl (k := 0) rfl (by decide) (by decide) rfl (fun ls hl => ?_)
        refine lv_goto (tgt := 7) hx hb dJ1_indexOfChar_4cfef_28 (by decide) ?_
        refine lv_iload hx hb dJ1_indexOfChar_4cfef_7 (lv_at hl 0 rfl) ?_
        refine lv_iload_n hx hb dJ1_indexOfChar_4cfef_9 rfl (lv_at hl 5 rfl) ?_
        refine x_cge M (tgt := 31) (by decide) (by decide) dJ1_indexOfChar_4cfef_10 (by decide) (fun c_7 => absurd c_7 (by decide)) (fun c_7 => ?_)
        refine lv_aload_n hx hb dJ1_indexOfChar_4cfef_13 rfl (lv_at hl 2 rfl) ?_
        refine lv_iload hx hb dJ1_indexOfChar_4cfef_14 (lv_at hl 0 rfl) ?_
        refine x_sbyt (i := 0) M hZ hw (by decide) (by decide) (by decide) dJ1_indexOfChar_4cfef_16 ?_
        refine lv_iload hx hb dJ1_indexOfChar_4cfef_17 (lv_at hl 1 rfl) ?_
        refine lv_icmp_ne (tgt := 25) hx hb dJ1_indexOfChar_4cfef_19 (by decide) (fun c_8 => ?_) (fun c_8 => ?_)
        · have : ch ≠ 113 := fun z => c_8 ((i2b_c ch hc 3 (by decide)).mpr z)
          refine lv_iinc (v := (nI 4)) (lv' := [(5, .int (nI 4)), (4, .int ((nI ch).toInt8.toInt32)), (0, .ref (Y (300 + 0))), (1, .int (nI ch)), (2, .int (nI 0)), (3, .int (nI 6))]) hx hb dJ1_indexOfChar_4cfef_25 hl (k := 0) rfl (by decide) (by decide) rfl (fun ls hl => ?_)
          refine lv_goto (tgt := 7) hx hb dJ1_indexOfChar_4cfef_28 (by decide) ?_
          refine lv_iload hx hb dJ1_indexOfChar_4cfef_7 (lv_at hl 0 rfl) ?_
          refine lv_iload_n hx hb dJ1_indexOfChar_4cfef_9 rfl (lv_at hl 5 rfl) ?_
          refine x_cge M (tgt := 31) (by decide) (by decide) dJ1_indexOfChar_4cfef_10 (by decide) (fun c_9 => absurd c_9 (by decide)) (fun c_9 => ?_)
          refine lv_aload_n hx hb dJ1_indexOfChar_4cfef_13 rfl (lv_at hl 2 rfl) ?_
          refine lv_iload hx hb dJ1_indexOfChar_4cfef_14 (lv_at hl 0 rfl) ?_
          refine x_sbyt (i := 0) M hZ hw (by decide) (by decide) (by decide) dJ1_indexOfChar_4cfef_16 ?_
          refine lv_iload hx hb dJ1_indexOfChar_4cfef_17 (lv_at hl 1 rfl) ?_
          refine lv_icmp_ne (tgt := 25) hx hb dJ1_indexOfChar_4cfef_19 (by decide) (fun c_10 => ?_) (fun c_10 => ?_)
          · have : ch ≠ 119 := fun z => c_10 ((i2b_c ch hc 4 (by decide)).mpr z)
            refine lv_iinc (v := (nI 5)) (lv' := [(5, .int (nI 5)), (4, .int ((nI ch).toInt8.toInt32)), (0, .ref (Y (300 + 0))), (1, .int (nI ch)), (2, .int (nI 0)), (3, .int (nI 6))]) hx hb dJ1_indexOfChar_4cfef_25 hl (k := 0) rfl (by decide) (by decide) rfl (fun ls hl => ?_)
            refine lv_goto (tgt := 7) hx hb dJ1_indexOfChar_4cfef_28 (by decide) ?_
            refine lv_iload hx hb dJ1_indexOfChar_4cfef_7 (lv_at hl 0 rfl) ?_
            refine lv_iload_n hx hb dJ1_indexOfChar_4cfef_9 rfl (lv_at hl 5 rfl) ?_
            refine x_cge M (tgt := 31) (by decide) (by decide) dJ1_indexOfChar_4cfef_10 (by decide) (fun c_11 => absurd c_11 (by decide)) (fun c_11 => ?_)
            refine lv_aload_n hx hb dJ1_indexOfChar_4cfef_13 rfl (lv_at hl 2 rfl) ?_
            refine lv_iload hx hb dJ1_indexOfChar_4cfef_14 (lv_at hl 0 rfl) ?_
            refine x_sbyt (i := 0) M hZ hw (by decide) (by decide) (by decide) dJ1_indexOfChar_4cfef_16 ?_
            refine lv_iload hx hb dJ1_indexOfChar_4cfef_17 (lv_at hl 1 rfl) ?_
            refine lv_icmp_ne (tgt := 25) hx hb dJ1_indexOfChar_4cfef_19 (by decide) (fun c_12 => ?_) (fun c_12 => ?_)
            · have : ch ≠ 99 := fun z => c_12 ((i2b_c ch hc 5 (by decide)).mpr z)
              refine lv_iinc (v := (nI 6)) (lv' := [(5, .int (nI 6)), (4, .int ((nI ch).toInt8.toInt32)), (0, .ref (Y (300 + 0))), (1, .int (nI ch)), (2, .int (nI 0)), (3, .int (nI 6))]) hx hb dJ1_indexOfChar_4cfef_25 hl (k := 0) rfl (by decide) (by decide) rfl (fun ls hl => ?_)
              refine lv_goto (tgt := 7) hx hb dJ1_indexOfChar_4cfef_28 (by decide) ?_
              refine lv_iload hx hb dJ1_indexOfChar_4cfef_7 (lv_at hl 0 rfl) ?_
              refine lv_iload_n hx hb dJ1_indexOfChar_4cfef_9 rfl (lv_at hl 5 rfl) ?_
              refine x_cge M (tgt := 31) (by decide) (by decide) dJ1_indexOfChar_4cfef_10 (by decide) (fun c_13 => ?_) (fun c_13 => absurd c_13 (by decide))
              refine lv_iconst (v := (-1)) hx hb dJ1_indexOfChar_4cfef_31 (by decide) ?_
              exact hret _ _ _ (-1) _ _ dJ1_indexOfChar_4cfef_32 hw rfl rfl ⟨by unfold idxC; rw [if_neg (by omega), if_neg (by omega), if_neg (by omega), if_neg (by omega), if_neg (by omega), if_neg (by omega)]; rfl, rfl⟩
            have : ch = 99 := (i2b_c ch hc 5 (by decide)).mp c_12
            refine lv_iload hx hb dJ1_indexOfChar_4cfef_22 (lv_at hl 0 rfl) ?_
            exact hret _ _ _ (nI 5) _ _ dJ1_indexOfChar_4cfef_24 hw rfl rfl ⟨by unfold idxC; rw [if_neg (by omega), if_neg (by omega), if_neg (by omega), if_neg (by omega), if_neg (by omega), if_pos (by omega)]; exact mw_s.symm, rfl⟩
          have : ch = 119 := (i2b_c ch hc 4 (by decide)).mp c_10
          refine lv_iload hx hb dJ1_indexOfChar_4cfef_22 (lv_at hl 0 rfl) ?_
          exact hret _ _ _ (nI 4) _ _ dJ1_indexOfChar_4cfef_24 hw rfl rfl ⟨by unfold idxC; rw [if_neg (by omega), if_neg (by omega), if_neg (by omega), if_neg (by omega), if_pos (by omega)]; exact mw_s.symm, rfl⟩
        have : ch = 113 := (i2b_c ch hc 3 (by decide)).mp c_8
        refine lv_iload hx hb dJ1_indexOfChar_4cfef_22 (lv_at hl 0 rfl) ?_
        exact hret _ _ _ (nI 3) _ _ dJ1_indexOfChar_4cfef_24 hw rfl rfl ⟨by unfold idxC; rw [if_neg (by omega), if_neg (by omega), if_neg (by omega), if_pos (by omega)]; exact mw_s.symm, rfl⟩
      have : ch = 118 := (i2b_c ch hc 2 (by decide)).mp c_6
      refine lv_iload hx hb dJ1_indexOfChar_4cfef_22 (lv_at hl 0 rfl) ?_
      exact hret _ _ _ (nI 2) _ _ dJ1_indexOfChar_4cfef_24 hw rfl rfl ⟨by unfold idxC; rw [if_neg (by omega), if_neg (by omega), if_pos (by omega)]; exact mw_s.symm, rfl⟩
    have : ch = 98 := (i2b_c ch hc 1 (by decide)).mp c_4
    refine lv_iload hx hb dJ1_indexOfChar_4cfef_22 (lv_at hl 0 rfl) ?_
    exact hret _ _ _ (nI 1) _ _ dJ1_indexOfChar_4cfef_24 hw rfl rfl ⟨by unfold idxC; rw [if_neg (by omega), if_pos (by omega)]; exact mw_s.symm, rfl⟩
  have : ch = 115 := (i2b_c ch hc 0 (by decide)).mp c_2
  refine lv_iload hx hb dJ1_indexOfChar_4cfef_22 (lv_at hl 0 rfl) ?_
  exact hret _ _ _ (nI 0) _ _ dJ1_indexOfChar_4cfef_24 hw rfl rfl ⟨by unfold idxC; rw [if_pos (by omega)]; exact mw_s.symm, rfl⟩
set_option maxHeartbeats 4000000 in
set_option maxRecDepth 20000 in
theorem k_J1_indexOf_4cfef (l : Launch) (G : va_G) (Y : Nat → Nat) (ch : Nat) (hc : ch < 256) : CtI l yJ1_indexOf_4cfef cJ1_indexOf_4cfef 4 .int 1 25 [.ref (Y (300 + 0)), .int (nI ch), .int (nI 0), .int (nI 6)] [] (fun r sg => r = mw (idxC ch) ∧ sg = []) G Y := by
  refine x_ofI (by decide) (Nat.le_of_ble_eq_true rfl) (fun p e s m args below meth c A ls Q M hK hZ hw hl hret => ?_)
  obtain ⟨hx, hb, -⟩ := id M
  have hl : lv_has ls 4 [(0, .ref (Y (300 + 0))), (1, .int (nI ch)), (2, .int (nI 0)), (3, .int (nI 6))] := hl
  refine lv_iload_n hx hb dJ1_indexOf_4cfef_0 rfl (lv_at hl 1 rfl) ?_
  refine x_cSI (As := [.int (nI ch)]) (k_J1_canEncode_9a6ad l G Y ch (by omega)) cw_J1_88 [] M hK hZ hw hl.1 rfl (by decide) ⟨by decide, by decide⟩ ⟨Nat.zero_le _, Nat.zero_le _⟩ rfl rfl (Nat.le_of_ble_eq_true rfl) dJ1_indexOf_4cfef_1 (fun r sg h_1 H locs hw => ?_)
  obtain ⟨rfl, rfl⟩ := h_1
  have hw : xW G A s.heap [] H locs := hw
  refine x_zne M (tgt := 9) (by decide) dJ1_indexOf_4cfef_4 (by decide) (fun c_2 => ?_) (fun c_2 => absurd c_2 (by decide))
  refine lv_iload_n hx hb dJ1_indexOf_4cfef_9 rfl (lv_at hl 2 rfl) ?_
  refine lv_iconst (v := (nI 0)) hx hb dJ1_indexOf_4cfef_10 (by decide) ?_
  refine x_max M hl.1 mw_527 mw_347 mw_13 mw_348 ⟨by decide, by decide⟩ ⟨Nat.zero_le _, Nat.zero_le _⟩ (Nat.le_of_ble_eq_true rfl) (by decide) (by decide) dJ1_indexOf_4cfef_11 ?_
  refine lv_istore_n (lv' := [(2, .int (nI 0)), (0, .ref (Y (300 + 0))), (1, .int (nI ch)), (3, .int (nI 6))]) hx hb dJ1_indexOf_4cfef_14 rfl hl (by decide) rfl (fun ls hl => ?_)
  refine lv_iload_n hx hb dJ1_indexOf_4cfef_15 rfl (lv_at hl 3 rfl) ?_
  refine lv_aload_n hx hb dJ1_indexOf_4cfef_16 rfl (lv_at hl 1 rfl) ?_
  refine x_slen (i := 0) M hZ hw (by decide) dJ1_indexOf_4cfef_17 ?_
  refine x_topN (n := 6) rfl ?_
  refine x_min M hl.1 mw_528 mw_290 mw_13 mw_291 ⟨by decide, by decide⟩ ⟨Nat.zero_le _, Nat.zero_le _⟩ (Nat.le_of_ble_eq_true rfl) (by decide) (by decide) dJ1_indexOf_4cfef_18 ?_
  refine lv_istore_n (lv' := [(3, .int (nI 6)), (2, .int (nI 0)), (0, .ref (Y (300 + 0))), (1, .int (nI ch))]) hx hb dJ1_indexOf_4cfef_21 rfl hl (by decide) rfl (fun ls hl => ?_)
  refine lv_iload_n hx hb dJ1_indexOf_4cfef_22 rfl (lv_at hl 1 rfl) ?_
  refine lv_iload_n hx hb dJ1_indexOf_4cfef_23 rfl (lv_at hl 0 rfl) ?_
  refine x_clt M (tgt := 29) (by decide) (by decide) dJ1_indexOf_4cfef_24 (by decide) (fun c_3 => ?_) (fun c_3 => absurd c_3 (by decide))
  refine lv_aload_n hx hb dJ1_indexOf_4cfef_29 rfl (lv_at hl 2 rfl) ?_
  refine lv_iload_n hx hb dJ1_indexOf_4cfef_30 rfl (lv_at hl 3 rfl) ?_
  refine lv_iload_n hx hb dJ1_indexOf_4cfef_31 rfl (lv_at hl 1 rfl) ?_
  refine lv_iload_n hx hb dJ1_indexOf_4cfef_32 rfl (lv_at hl 0 rfl) ?_
  refine x_cSI (As := [.ref (Y (300 + 0)), .int (nI ch), .int (nI 0), .int (nI 6)]) (k_J1_indexOfChar_4cfef l G Y ch (by omega)) cw_J1_95 [] M hK hZ hw hl.1 rfl (by decide) ⟨by decide, by decide⟩ ⟨Nat.zero_le _, Nat.zero_le _⟩ rfl rfl (Nat.le_of_ble_eq_true rfl) dJ1_indexOf_4cfef_33 (fun r sg h_4 H locs hw => ?_)
  obtain ⟨rfl, rfl⟩ := h_4
  have hw : xW G A s.heap [] H locs := hw
  exact hret _ _ _ (mw (idxC ch)) _ _ dJ1_indexOf_4cfef_36 hw rfl rfl ⟨rfl, rfl⟩
set_option maxHeartbeats 4000000 in
set_option maxRecDepth 20000 in
theorem k_J0_indexOf_7cf53 (l : Launch) (G : va_G) (Y : Nat → Nat) (ch : Nat) (hc : ch < 256) : CtI l yJ0_indexOf_7cf53 cJ0_indexOf_7cf53 3 .int 2 48 [.ref (Y (200 + 0)), .int (nI ch), .int (nI 0)] [] (fun r sg => r = mw (idxC ch) ∧ sg = []) G Y := by
  refine x_ofI (by decide) (Nat.le_of_ble_eq_true rfl) (fun p e s m args below meth c A ls Q M hK hZ hw hl hret => ?_)
  obtain ⟨hx, hb, -⟩ := id M
  have hl : lv_has ls 3 [(0, .ref (Y (200 + 0))), (1, .int (nI ch)), (2, .int (nI 0))] := hl
  refine lv_aload_n hx hb dJ0_indexOf_7cf53_0 rfl (lv_at hl 0 rfl) ?_
  refine x_cTI (i := 0) (As := []) (k_J0_isLatin1_aae02 l G Y 0 ((by decide))) cw_J0_492 (by decide) rfl [] M hK hZ hw hl.1 rfl (by decide) ⟨by decide, by decide⟩ ⟨Nat.zero_le _, Nat.zero_le _⟩ rfl rfl (Nat.le_of_ble_eq_true rfl) dJ0_indexOf_7cf53_1 (fun r sg h_1 H locs hw => ?_)
  obtain ⟨rfl, rfl⟩ := h_1
  have hw : xW G A s.heap [] H locs := hw
  refine x_zeq M (tgt := 23) (by decide) dJ0_indexOf_7cf53_4 (by decide) (fun c_2 => absurd c_2 (by decide)) (fun c_2 => ?_)
  refine lv_aload_n hx hb dJ0_indexOf_7cf53_7 rfl (lv_at hl 0 rfl) ?_
  refine x_sval (i := 0) M hZ hw (by decide) mw_1021 dJ0_indexOf_7cf53_8 ?_
  refine lv_iload_n hx hb dJ0_indexOf_7cf53_11 rfl (lv_at hl 1 rfl) ?_
  refine lv_iload_n hx hb dJ0_indexOf_7cf53_12 rfl (lv_at hl 2 rfl) ?_
  refine lv_aload_n hx hb dJ0_indexOf_7cf53_13 rfl (lv_at hl 0 rfl) ?_
  refine x_cTI (i := 0) (As := []) (k_J0_length_8abf5 l G Y 0 ((by decide))) cw_J0_505 (by decide) rfl [] M hK hZ hw hl.1 rfl (by decide) ⟨by decide, by decide⟩ ⟨Nat.zero_le _, Nat.zero_le _⟩ rfl rfl (Nat.le_of_ble_eq_true rfl) dJ0_indexOf_7cf53_14 (fun r sg h_3 H locs hw => ?_)
  obtain ⟨rfl, rfl⟩ := h_3
  have hw : xW G A s.heap [] H locs := hw
  refine x_topN (n := 6) rfl ?_
  refine x_cSI (As := [.ref (Y (300 + 0)), .int (nI ch), .int (nI 0), .int (nI 6)]) (k_J1_indexOf_4cfef l G Y ch (by omega)) cw_J0_637 [] M hK hZ hw hl.1 rfl (by decide) ⟨by decide, by decide⟩ ⟨Nat.zero_le _, Nat.zero_le _⟩ rfl rfl (Nat.le_of_ble_eq_true rfl) dJ0_indexOf_7cf53_17 (fun r sg h_4 H locs hw => ?_)
  obtain ⟨rfl, rfl⟩ := h_4
  have hw : xW G A s.heap [] H locs := hw
  refine lv_goto (tgt := 36) hx hb dJ0_indexOf_7cf53_20 (by decide) ?_
  exact hret _ _ _ (mw (idxC ch)) _ _ dJ0_indexOf_7cf53_36 hw rfl rfl ⟨rfl, rfl⟩
set_option maxHeartbeats 4000000 in
set_option maxRecDepth 20000 in
theorem k_J0_indexOf_0f7a4 (l : Launch) (G : va_G) (Y : Nat → Nat) (ch : Nat) (hc : ch < 256) : CtI l yJ0_indexOf_0f7a4 cJ0_indexOf_0f7a4 2 .int 3 70 [.ref (Y (200 + 0)), .int (nI ch)] [] (fun r sg => r = mw (idxC ch) ∧ sg = []) G Y := by
  refine x_ofI (by decide) (Nat.le_of_ble_eq_true rfl) (fun p e s m args below meth c A ls Q M hK hZ hw hl hret => ?_)
  obtain ⟨hx, hb, -⟩ := id M
  have hl : lv_has ls 2 [(0, .ref (Y (200 + 0))), (1, .int (nI ch))] := hl
  refine lv_aload_n hx hb dJ0_indexOf_0f7a4_0 rfl (lv_at hl 0 rfl) ?_
  refine lv_iload_n hx hb dJ0_indexOf_0f7a4_1 rfl (lv_at hl 1 rfl) ?_
  refine lv_iconst (v := (nI 0)) hx hb dJ0_indexOf_0f7a4_2 (by decide) ?_
  refine x_cTI (i := 0) (As := [.int (nI ch), .int (nI 0)]) (k_J0_indexOf_7cf53 l G Y ch (by omega)) cw_J0_633 (by decide) rfl [] M hK hZ hw hl.1 rfl (by decide) ⟨by decide, by decide⟩ ⟨Nat.zero_le _, Nat.zero_le _⟩ rfl rfl (Nat.le_of_ble_eq_true rfl) dJ0_indexOf_0f7a4_3 (fun r sg h_1 H locs hw => ?_)
  obtain ⟨rfl, rfl⟩ := h_1
  have hw : xW G A s.heap [] H locs := hw
  exact hret _ _ _ (mw (idxC ch)) _ _ dJ0_indexOf_0f7a4_6 hw rfl rfl ⟨rfl, rfl⟩
theorem idxC_lt {ch : Nat} : idxC ch < 2 ^ 31 := by unfold idxC; (repeat' split) <;> decide
set_option maxHeartbeats 4000000 in
set_option maxRecDepth 20000 in
theorem k_X4_isCommand (l : Launch) (G : va_G) (Y : Nat → Nat) (ch : Nat) (hc : ch < 256) : CtI l yX4_isCommand cX4_isCommand 1 .boolean 4 91 [.int (nI ch)] [] (fun r sg => r = b2i (decide (0 < idxC ch)) ∧ sg = []) G Y := by
  refine x_ofI (by decide) (Nat.le_of_ble_eq_true rfl) (fun p e s m args below meth c A ls Q M hK hZ hw hl hret => ?_)
  obtain ⟨hx, hb, -⟩ := id M
  have hl : lv_has ls 1 [(0, .int (nI ch))] := hl
  refine x_ldcS (own := RX4) (tx := "sbvqwc") (q := 200) M hK (by simp [xStr]) dX4_isCommand_0 ?_
  refine lv_iload_n hx hb dX4_isCommand_2 rfl (lv_at hl 0 rfl) ?_
  refine x_cTI (i := 0) (As := [.int (nI ch)]) (k_J0_indexOf_0f7a4 l G Y ch (by omega)) cw_X4_65 (by decide) rfl [] M hK hZ hw hl.1 rfl (by decide) ⟨by decide, by decide⟩ ⟨Nat.zero_le _, Nat.zero_le _⟩ rfl rfl (Nat.le_of_ble_eq_true rfl) dX4_isCommand_3 (fun r sg h_1 H locs hw => ?_)
  obtain ⟨rfl, rfl⟩ := h_1
  have hw : xW G A s.heap [] H locs := hw
  refine lv_if_lt (tgt := 13) hx hb dX4_isCommand_6 (by decide) (fun c_2 => ?_) (fun c_2 => ?_)
  · refine lv_iconst (v := (nI 0)) hx hb dX4_isCommand_13 (by decide) ?_
    exact hret _ _ _ (nI 0) _ _ dX4_isCommand_14 hw rfl rfl ⟨b2i_f (decide_eq_false (by have := (mw_neg (n := idxC ch) idxC_lt).mp c_2; omega)), rfl⟩
  refine lv_iconst (v := (nI 1)) hx hb dX4_isCommand_9 (by decide) ?_
  refine lv_goto (tgt := 14) hx hb dX4_isCommand_10 (by decide) ?_
  exact hret _ _ _ (nI 1) _ _ dX4_isCommand_14 hw rfl rfl ⟨b2i_t (decide_eq_true (by have := mt (mw_neg (n := idxC ch) idxC_lt).mpr c_2; omega)), rfl⟩
set_option maxHeartbeats 4000000 in
set_option maxRecDepth 20000 in
theorem k_X4_leastDigits (l : Launch) (G : va_G) (Y : Nat → Nat) (ch : Nat) (hc : ch < 256) : CtR l yX4_leastDigits cX4_leastDigits 1 (.object "java/lang/String") 0 0 [.int (nI ch)] [] (fun r sg => r = Y (200 + lsI ch) ∧ sg = []) G Y := by
  refine x_ofR (by decide) (Nat.le_of_ble_eq_true rfl) (Or.inl ⟨_, rfl⟩) (fun p e s m args below meth c A ls Q M hK hZ hw hl hret => ?_)
  obtain ⟨hx, hb, -⟩ := id M
  have hl : lv_has ls 1 [(0, .int (nI ch))] := hl
  refine lv_iload_n hx hb dX4_leastDigits_0 rfl (lv_at hl 0 rfl) ?_
  rcases (show ch = 115 ∨ ch = 98 ∨ ch = 118 ∨ ch = 113 ∨ ch = 119 ∨ (ch ≠ 115 ∧ ch ≠ 98 ∧ ch ≠ 118 ∧ ch ≠ 113 ∧ ch ≠ 119) by omega) with e_1 | e_1 | e_1 | e_1 | e_1 | e_1
  · refine x_topN (n := 115) (congrArg nI e_1) ?_
    refine lv_lookup (tgt := 52) hx hb dX4_leastDigits_1 (by decide) rfl (by decide) ?_
    refine x_ldcS (own := RX4) (tx := "011") (q := 207) M hK (by simp [xStr]) dX4_leastDigits_52 ?_
    exact hret _ _ _ (Y (200 + 7)) _ _ dX4_leastDigits_54 hw rfl ⟨congrArg Y (by show _ = 200 + lsI ch; rw [e_1]; rfl), rfl⟩
  · refine x_topN (n := 98) (congrArg nI e_1) ?_
    refine lv_lookup (tgt := 55) hx hb dX4_leastDigits_1 (by decide) rfl (by decide) ?_
    refine x_ldcS (own := RX4) (tx := "001") (q := 208) M hK (by simp [xStr]) dX4_leastDigits_55 ?_
    exact hret _ _ _ (Y (200 + 8)) _ _ dX4_leastDigits_57 hw rfl ⟨congrArg Y (by show _ = 200 + lsI ch; rw [e_1]; rfl), rfl⟩
  · refine x_topN (n := 118) (congrArg nI e_1) ?_
    refine lv_lookup (tgt := 58) hx hb dX4_leastDigits_1 (by decide) rfl (by decide) ?_
    refine x_ldcS (own := RX4) (tx := "00000") (q := 209) M hK (by simp [xStr]) dX4_leastDigits_58 ?_
    exact hret _ _ _ (Y (200 + 9)) _ _ dX4_leastDigits_60 hw rfl ⟨congrArg Y (by show _ = 200 + lsI ch; rw [e_1]; rfl), rfl⟩
  · refine x_topN (n := 113) (congrArg nI e_1) ?_
    refine lv_lookup (tgt := 61) hx hb dX4_leastDigits_1 (by decide) rfl (by decide) ?_
    refine x_ldcS (own := RX4) (tx := "000") (q := 210) M hK (by simp [xStr]) dX4_leastDigits_61 ?_
    exact hret _ _ _ (Y (200 + 10)) _ _ dX4_leastDigits_63 hw rfl ⟨congrArg Y (by show _ = 200 + lsI ch; rw [e_1]; rfl), rfl⟩
  · refine x_topN (n := 119) (congrArg nI e_1) ?_
    refine lv_lookup (tgt := 64) hx hb dX4_leastDigits_1 (by decide) rfl (by decide) ?_
    refine x_ldcS (own := RX4) (tx := "0") (q := 211) M hK (by simp [xStr]) dX4_leastDigits_64 ?_
    exact hret _ _ _ (Y (200 + 11)) _ _ dX4_leastDigits_66 hw rfl ⟨congrArg Y (by show _ = 200 + lsI ch; rw [e_1]; rfl), rfl⟩
  · refine lv_lookup (tgt := 67) hx hb dX4_leastDigits_1 (by decide) ((lv_osw (k := nI 98) (fun z => absurd (nI_injN z (by omega) (by decide)) (by omega)) rfl).trans ((lv_osw (k := nI 113) (fun z => absurd (nI_injN z (by omega) (by decide)) (by omega)) rfl).trans ((lv_osw (k := nI 115) (fun z => absurd (nI_injN z (by omega) (by decide)) (by omega)) rfl).trans ((lv_osw (k := nI 118) (fun z => absurd (nI_injN z (by omega) (by decide)) (by omega)) rfl).trans ((lv_osw (k := nI 119) (fun z => absurd (nI_injN z (by omega) (by decide)) (by omega)) rfl).trans rfl))))) rfl ?_
    refine x_ldcS (own := RX4) (tx := "") (q := 206) M hK (by simp [xStr]) dX4_leastDigits_67 ?_
    exact hret _ _ _ (Y (200 + 6)) _ _ dX4_leastDigits_69 hw rfl ⟨congrArg Y (by show _ = 200 + lsI ch; unfold lsI; rw [if_neg e_1.1, if_neg e_1.2.1, if_neg e_1.2.2.1, if_neg e_1.2.2.2.1, if_neg e_1.2.2.2.2]), rfl⟩
set_option maxHeartbeats 4000000 in
set_option maxRecDepth 20000 in
theorem k_X4_greatestDigits (l : Launch) (G : va_G) (Y : Nat → Nat) (ch : Nat) (hc : ch < 256) : CtR l yX4_greatestDigits cX4_greatestDigits 1 (.object "java/lang/String") 0 0 [.int (nI ch)] [] (fun r sg => r = Y (200 + gsI ch) ∧ sg = []) G Y := by
  refine x_ofR (by decide) (Nat.le_of_ble_eq_true rfl) (Or.inl ⟨_, rfl⟩) (fun p e s m args below meth c A ls Q M hK hZ hw hl hret => ?_)
  obtain ⟨hx, hb, -⟩ := id M
  have hl : lv_has ls 1 [(0, .int (nI ch))] := hl
  refine lv_iload_n hx hb dX4_greatestDigits_0 rfl (lv_at hl 0 rfl) ?_
  rcases (show ch = 115 ∨ ch = 98 ∨ ch = 118 ∨ ch = 113 ∨ ch = 119 ∨ (ch ≠ 115 ∧ ch ≠ 98 ∧ ch ≠ 118 ∧ ch ≠ 113 ∧ ch ≠ 119) by omega) with e_1 | e_1 | e_1 | e_1 | e_1 | e_1
  · refine x_topN (n := 115) (congrArg nI e_1) ?_
    refine lv_lookup (tgt := 52) hx hb dX4_greatestDigits_1 (by decide) rfl (by decide) ?_
    refine x_ldcS (own := RX4) (tx := "299") (q := 201) M hK (by simp [xStr]) dX4_greatestDigits_52 ?_
    exact hret _ _ _ (Y (200 + 1)) _ _ dX4_greatestDigits_54 hw rfl ⟨congrArg Y (by show _ = 200 + gsI ch; rw [e_1]; rfl), rfl⟩
  · refine x_topN (n := 98) (congrArg nI e_1) ?_
    refine lv_lookup (tgt := 55) hx hb dX4_greatestDigits_1 (by decide) rfl (by decide) ?_
    refine x_ldcS (own := RX4) (tx := "999") (q := 202) M hK (by simp [xStr]) dX4_greatestDigits_55 ?_
    exact hret _ _ _ (Y (200 + 2)) _ _ dX4_greatestDigits_57 hw rfl ⟨congrArg Y (by show _ = 200 + gsI ch; rw [e_1]; rfl), rfl⟩
  · refine x_topN (n := 118) (congrArg nI e_1) ?_
    refine lv_lookup (tgt := 58) hx hb dX4_greatestDigits_1 (by decide) rfl (by decide) ?_
    refine x_ldcS (own := RX4) (tx := "52999") (q := 203) M hK (by simp [xStr]) dX4_greatestDigits_58 ?_
    exact hret _ _ _ (Y (200 + 3)) _ _ dX4_greatestDigits_60 hw rfl ⟨congrArg Y (by show _ = 200 + gsI ch; rw [e_1]; rfl), rfl⟩
  · refine x_topN (n := 113) (congrArg nI e_1) ?_
    refine lv_lookup (tgt := 61) hx hb dX4_greatestDigits_1 (by decide) rfl (by decide) ?_
    refine x_ldcS (own := RX4) (tx := "529") (q := 204) M hK (by simp [xStr]) dX4_greatestDigits_61 ?_
    exact hret _ _ _ (Y (200 + 4)) _ _ dX4_greatestDigits_63 hw rfl ⟨congrArg Y (by show _ = 200 + gsI ch; rw [e_1]; rfl), rfl⟩
  · refine x_topN (n := 119) (congrArg nI e_1) ?_
    refine lv_lookup (tgt := 64) hx hb dX4_greatestDigits_1 (by decide) rfl (by decide) ?_
    refine x_ldcS (own := RX4) (tx := "5") (q := 205) M hK (by simp [xStr]) dX4_greatestDigits_64 ?_
    exact hret _ _ _ (Y (200 + 5)) _ _ dX4_greatestDigits_66 hw rfl ⟨congrArg Y (by show _ = 200 + gsI ch; rw [e_1]; rfl), rfl⟩
  · refine lv_lookup (tgt := 67) hx hb dX4_greatestDigits_1 (by decide) ((lv_osw (k := nI 98) (fun z => absurd (nI_injN z (by omega) (by decide)) (by omega)) rfl).trans ((lv_osw (k := nI 113) (fun z => absurd (nI_injN z (by omega) (by decide)) (by omega)) rfl).trans ((lv_osw (k := nI 115) (fun z => absurd (nI_injN z (by omega) (by decide)) (by omega)) rfl).trans ((lv_osw (k := nI 118) (fun z => absurd (nI_injN z (by omega) (by decide)) (by omega)) rfl).trans ((lv_osw (k := nI 119) (fun z => absurd (nI_injN z (by omega) (by decide)) (by omega)) rfl).trans rfl))))) rfl ?_
    refine x_ldcS (own := RX4) (tx := "") (q := 206) M hK (by simp [xStr]) dX4_greatestDigits_67 ?_
    exact hret _ _ _ (Y (200 + 6)) _ _ dX4_greatestDigits_69 hw rfl ⟨congrArg Y (by show _ = 200 + gsI ch; unfold gsI; rw [if_neg e_1.1, if_neg e_1.2.1, if_neg e_1.2.2.1, if_neg e_1.2.2.2.1, if_neg e_1.2.2.2.2]), rfl⟩
set_option maxHeartbeats 4000000 in
set_option maxRecDepth 20000 in
theorem k_X4_digitsOf (l : Launch) (G : va_G) (Y : Nat → Nat) (ch : Nat) (hc : ch < 256) : CtI l yX4_digitsOf cX4_digitsOf 1 .int 2 40 [.int (nI ch)] [] (fun r sg => r = nI (dgN ch) ∧ sg = []) G Y := by
  refine x_ofI (by decide) (Nat.le_of_ble_eq_true rfl) (fun p e s m args below meth c A ls Q M hK hZ hw hl hret => ?_)
  obtain ⟨hx, hb, -⟩ := id M
  have hl : lv_has ls 1 [(0, .int (nI ch))] := hl
  refine lv_iload_n hx hb dX4_digitsOf_0 rfl (lv_at hl 0 rfl) ?_
  refine x_cSR (As := [.int (nI ch)]) (k_X4_greatestDigits l G Y ch (by omega)) cw_X4_71 [] M hK hZ hw hl.1 rfl (by decide) ⟨by decide, by decide⟩ ⟨Nat.zero_le _, Nat.zero_le _⟩ rfl rfl (Nat.le_of_ble_eq_true rfl) dX4_digitsOf_1 (fun r sg h_1 H locs hw => ?_)
  obtain ⟨rfl, rfl⟩ := h_1
  have hw : xW G A s.heap [] H locs := hw
  refine x_cTI (i := gsI ch) (As := []) (k_J0_length_8abf5 l G Y (gsI ch) (gsI_lt)) cw_X4_75 gsI_lt rfl [] M hK hZ hw hl.1 rfl (by decide) ⟨by decide, by decide⟩ ⟨Nat.zero_le _, Nat.zero_le _⟩ rfl rfl (Nat.le_of_ble_eq_true rfl) dX4_digitsOf_4 (fun r sg h_2 H locs hw => ?_)
  obtain ⟨rfl, rfl⟩ := h_2
  have hw : xW G A s.heap [] H locs := hw
  exact hret _ _ _ (nI (xLen.getD (gsI ch) 0)) _ _ dX4_digitsOf_7 hw rfl rfl ⟨rfl, rfl⟩
set_option maxHeartbeats 4000000 in
set_option maxRecDepth 20000 in
theorem k_X4_allows (l : Launch) (G : va_G) (Y : Nat → Nat) (ch j ch2 : Nat) (hc : ch < 256) (hj : j < 2 ^ 31) (hc2 : ch2 < 256) : CtI l yX4_allows cX4_allows 5 .boolean 4 85 [.int (nI ch), .int (nI j), .int (nI ch2)] [] (fun r sg => r = b2i (decide (j < dgN ch ∧ chS (lsI ch) j ≤ ch2 ∧ ch2 ≤ chS (gsI ch) j)) ∧ sg = []) G Y := by
  refine x_ofI (by decide) (Nat.le_of_ble_eq_true rfl) (fun p e s m args below meth c A ls Q M hK hZ hw hl hret => ?_)
  obtain ⟨hx, hb, -⟩ := id M
  have hl : lv_has ls 5 [(0, .int (nI ch)), (1, .int (nI j)), (2, .int (nI ch2))] := hl
  have hd5 := dgN_le (ch := ch)
  refine lv_iload_n hx hb dX4_allows_0 rfl (lv_at hl 0 rfl) ?_
  refine x_cSR (As := [.int (nI ch)]) (k_X4_leastDigits l G Y ch (by omega)) cw_X4_78 [] M hK hZ hw hl.1 rfl (by decide) ⟨by decide, by decide⟩ ⟨Nat.zero_le _, Nat.zero_le _⟩ rfl rfl (Nat.le_of_ble_eq_true rfl) dX4_allows_1 (fun r sg h_1 H locs hw => ?_)
  obtain ⟨rfl, rfl⟩ := h_1
  have hw : xW G A s.heap [] H locs := hw
  refine lv_astore_n (lv' := [(3, .ref (Y (200 + lsI ch))), (0, .int (nI ch)), (1, .int (nI j)), (2, .int (nI ch2))]) hx hb dX4_allows_4 rfl hl (by decide) rfl (fun ls hl => ?_)
  refine lv_iload_n hx hb dX4_allows_5 rfl (lv_at hl 1 rfl) ?_
  refine x_cSR (As := [.int (nI ch)]) (k_X4_greatestDigits l G Y ch (by omega)) cw_X4_71 [] M hK hZ hw hl.1 rfl (by decide) ⟨by decide, by decide⟩ ⟨Nat.zero_le _, Nat.zero_le _⟩ rfl rfl (Nat.le_of_ble_eq_true rfl) dX4_allows_6 (fun r sg h_2 H locs hw => ?_)
  obtain ⟨rfl, rfl⟩ := h_2
  have hw : xW G A s.heap [] H locs := hw
  refine lv_astore (lv' := [(4, .ref (Y (200 + gsI ch))), (3, .ref (Y (200 + lsI ch))), (0, .int (nI ch)), (1, .int (nI j)), (2, .int (nI ch2))]) hx hb dX4_allows_9 hl (by decide) rfl (fun ls hl => ?_)
  refine lv_iload_n hx hb dX4_allows_11 rfl (lv_at hl 3 rfl) ?_
  refine lv_aload_n hx hb dX4_allows_12 rfl (lv_at hl 1 rfl) ?_
  refine x_cTI (i := lsI ch) (As := []) (k_J0_length_8abf5 l G Y (lsI ch) (lsI_lt)) cw_X4_75 lsI_lt rfl [] M hK hZ hw hl.1 rfl (by decide) ⟨by decide, by decide⟩ ⟨Nat.zero_le _, Nat.zero_le _⟩ rfl rfl (Nat.le_of_ble_eq_true rfl) dX4_allows_13 (fun r sg h_3 H locs hw => ?_)
  obtain ⟨rfl, rfl⟩ := h_3
  have hw : xW G A s.heap [] H locs := hw
  refine x_topN (n := dgN ch) (congrArg nI lsI_len) ?_
  refine x_cge M (tgt := 28) (by omega) (by omega) dX4_allows_16 (by decide) (fun c_4 => ?_) (fun c_4 => ?_)
  · refine lv_iconst (v := (nI 0)) hx hb dX4_allows_28 (by decide) ?_
    exact hret _ _ _ (nI 0) _ _ dX4_allows_29 hw rfl rfl ⟨b2i_f (decide_eq_false (fun z => by have := z.1; have := z.2.1; have := z.2.2; omega)), rfl⟩
  refine lv_iload_n hx hb dX4_allows_19 rfl (lv_at hl 3 rfl) ?_
  refine lv_aload hx hb dX4_allows_20 (lv_at hl 0 rfl) ?_
  refine x_cTI (i := gsI ch) (As := []) (k_J0_length_8abf5 l G Y (gsI ch) (gsI_lt)) cw_X4_75 gsI_lt rfl [] M hK hZ hw hl.1 rfl (by decide) ⟨by decide, by decide⟩ ⟨Nat.zero_le _, Nat.zero_le _⟩ rfl rfl (Nat.le_of_ble_eq_true rfl) dX4_allows_22 (fun r sg h_5 H locs hw => ?_)
  obtain ⟨rfl, rfl⟩ := h_5
  have hw : xW G A s.heap [] H locs := hw
  refine x_topN (n := dgN ch) rfl ?_
  refine x_clt M (tgt := 30) (by omega) (by omega) dX4_allows_25 (by decide) (fun c_6 => ?_) (fun c_6 => ?_)
  · have hl7 := chS_le (lsI ch) lsI_lt j (by omega)
    have hg7 := chS_le (gsI ch) gsI_lt j (by omega)
    refine lv_iload_n hx hb dX4_allows_30 rfl (lv_at hl 4 rfl) ?_
    refine lv_aload_n hx hb dX4_allows_31 rfl (lv_at hl 1 rfl) ?_
    refine lv_iload_n hx hb dX4_allows_32 rfl (lv_at hl 3 rfl) ?_
    refine x_cTI (i := lsI ch) (As := [.int (nI j)]) (k_J0_charAt_5068e l G Y (lsI ch) j (lsI_lt) (by rw [lsI_len]; omega)) cw_X4_81 lsI_lt rfl [] M hK hZ hw hl.1 rfl (by decide) ⟨by decide, by decide⟩ ⟨Nat.zero_le _, Nat.zero_le _⟩ rfl rfl (Nat.le_of_ble_eq_true rfl) dX4_allows_33 (fun r sg h_7 H locs hw => ?_)
    obtain ⟨rfl, rfl⟩ := h_7
    have hw : xW G A s.heap [] H locs := hw
    refine x_clt M (tgt := 53) (by omega) (by omega) dX4_allows_36 (by decide) (fun c_8 => ?_) (fun c_8 => ?_)
    · refine lv_iconst (v := (nI 0)) hx hb dX4_allows_53 (by decide) ?_
      exact hret _ _ _ (nI 0) _ _ dX4_allows_54 hw rfl rfl ⟨b2i_f (decide_eq_false (fun z => by have := z.1; have := z.2.1; have := z.2.2; omega)), rfl⟩
    refine lv_iload_n hx hb dX4_allows_39 rfl (lv_at hl 4 rfl) ?_
    refine lv_aload hx hb dX4_allows_40 (lv_at hl 0 rfl) ?_
    refine lv_iload_n hx hb dX4_allows_42 rfl (lv_at hl 3 rfl) ?_
    refine x_cTI (i := gsI ch) (As := [.int (nI j)]) (k_J0_charAt_5068e l G Y (gsI ch) j (gsI_lt) (by show j < dgN ch; omega)) cw_X4_81 gsI_lt rfl [] M hK hZ hw hl.1 rfl (by decide) ⟨by decide, by decide⟩ ⟨Nat.zero_le _, Nat.zero_le _⟩ rfl rfl (Nat.le_of_ble_eq_true rfl) dX4_allows_43 (fun r sg h_9 H locs hw => ?_)
    obtain ⟨rfl, rfl⟩ := h_9
    have hw : xW G A s.heap [] H locs := hw
    refine x_cgt M (tgt := 53) (by omega) (by omega) dX4_allows_46 (by decide) (fun c_10 => ?_) (fun c_10 => ?_)
    · refine lv_iconst (v := (nI 0)) hx hb dX4_allows_53 (by decide) ?_
      exact hret _ _ _ (nI 0) _ _ dX4_allows_54 hw rfl rfl ⟨b2i_f (decide_eq_false (fun z => by have := z.1; have := z.2.1; have := z.2.2; omega)), rfl⟩
    refine lv_iconst (v := (nI 1)) hx hb dX4_allows_49 (by decide) ?_
    refine lv_goto (tgt := 54) hx hb dX4_allows_50 (by decide) ?_
    exact hret _ _ _ (nI 1) _ _ dX4_allows_54 hw rfl rfl ⟨b2i_t (decide_eq_true ⟨by omega, by omega, by omega⟩), rfl⟩
  refine lv_iconst (v := (nI 0)) hx hb dX4_allows_28 (by decide) ?_
  exact hret _ _ _ (nI 0) _ _ dX4_allows_29 hw rfl rfl ⟨b2i_f (decide_eq_false (fun z => by have := z.1; have := z.2.1; have := z.2.2; omega)), rfl⟩
