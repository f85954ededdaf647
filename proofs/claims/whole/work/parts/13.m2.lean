set_option maxHeartbeats 4000000 in
set_option maxRecDepth 20000 in
theorem k_X6_in (l : Launch) (G : va_G) (Y : Nat → Nat) (x a b : Int64)  : CtI l yX6_in cX6_in 6 .boolean 0 0 [.long x, .long a, .long b] [] (fun r sg => r = b2i (inZ x.toInt a.toInt b.toInt) ∧ sg = []) G Y := by
  refine x_ofI (by decide) (Nat.le_of_ble_eq_true rfl) (fun p e s m args below meth c A ls Q M hK hZ hw hl hret => ?_)
  obtain ⟨hx, hb, -⟩ := id M
  have hl : lv_has ls 6 [(0, .long x), (2, .long a), (4, .long b)] := hl
  refine lv_lload_n hx hb dX6_in_0 rfl (lv_at hl 0 rfl) ?_
  refine lv_lload_n hx hb dX6_in_1 rfl (lv_at hl 1 rfl) ?_
  refine W.lcmp hx hb dX6_in_2 ?_
  refine lv_if_lt (tgt := 17) hx hb dX6_in_3 (by decide) (fun c_1 => ?_) (fun c_1 => ?_)
  · refine lv_iconst (v := (nI 0)) hx hb dX6_in_17 (by decide) ?_
    simp only [Int64.lt_iff_toInt_lt, Int64.le_iff_toInt_le, lg_cmp_lt, lg_cmp_gt, lg_cmp_le, lg_cmp_ge] at c_1
    exact hret _ _ _ (nI 0) _ _ dX6_in_18 hw rfl rfl ⟨b2i_f (by simp only [inZ, decide_eq_true_eq, decide_eq_false_iff_not]; omega), rfl⟩
  refine lv_lload_n hx hb dX6_in_6 rfl (lv_at hl 0 rfl) ?_
  refine lv_lload hx hb dX6_in_7 (lv_at hl 2 rfl) ?_
  refine W.lcmp hx hb dX6_in_9 ?_
  refine lv_if_gt (tgt := 17) hx hb dX6_in_10 (by decide) (fun c_2 => ?_) (fun c_2 => ?_)
  · refine lv_iconst (v := (nI 0)) hx hb dX6_in_17 (by decide) ?_
    simp only [Int64.lt_iff_toInt_lt, Int64.le_iff_toInt_le, lg_cmp_lt, lg_cmp_gt, lg_cmp_le, lg_cmp_ge] at c_1 c_2
    exact hret _ _ _ (nI 0) _ _ dX6_in_18 hw rfl rfl ⟨b2i_f (by simp only [inZ, decide_eq_true_eq, decide_eq_false_iff_not]; omega), rfl⟩
  refine lv_iconst (v := (nI 1)) hx hb dX6_in_13 (by decide) ?_
  refine lv_goto (tgt := 18) hx hb dX6_in_14 (by decide) ?_
  simp only [Int64.lt_iff_toInt_lt, Int64.le_iff_toInt_le, lg_cmp_lt, lg_cmp_gt, lg_cmp_le, lg_cmp_ge] at c_1 c_2
  exact hret _ _ _ (nI 1) _ _ dX6_in_18 hw rfl rfl ⟨b2i_t (by simp only [inZ, decide_eq_true_eq, decide_eq_false_iff_not]; omega), rfl⟩
set_option maxHeartbeats 4000000 in
set_option maxRecDepth 20000 in
theorem k_X6_isKind (l : Launch) (G : va_G) (Y : Nat → Nat) (x : Int32)  : CtI l yX6_isKind cX6_isKind 1 .boolean 1 25 [.int x] [] (fun r sg => r = b2i (inZ x.toInt 0 2) ∧ sg = []) G Y := by
  refine x_ofI (by decide) (Nat.le_of_ble_eq_true rfl) (fun p e s m args below meth c A ls Q M hK hZ hw hl hret => ?_)
  obtain ⟨hx, hb, -⟩ := id M
  have hl : lv_has ls 1 [(0, .int x)] := hl
  refine lv_iload_n hx hb dX6_isKind_0 rfl (lv_at hl 0 rfl) ?_
  refine lv_i2l (v := x.toInt64) hx hb dX6_isKind_1 rfl ?_
  refine lv_lconst (v := 0) hx hb dX6_isKind_2 (by decide) ?_
  refine lv_ldc2 (v := 2) hx hb M.2.2.2.1 (M.2.2.2.2 _ mw_1102) dX6_isKind_3 ?_
  refine x_cSI (As := [.long x.toInt64, .long 0, .long 2]) (k_X6_in l G Y x.toInt64 0 2) cw_X6_45 [] M hK hZ hw hl.1 rfl (by decide) ⟨by decide, by decide⟩ ⟨Nat.zero_le _, Nat.zero_le _⟩ rfl rfl (Nat.le_of_ble_eq_true rfl) dX6_isKind_6 (fun r sg h_1 H locs hw => ?_)
  obtain ⟨rfl, rfl⟩ := h_1
  have hw : xW G A s.heap [] H locs := hw
  refine x_topI (y := b2i (inZ x.toInt 0 2)) (by rw [Int32.toInt_toInt64]; rfl) ?_
  exact hret _ _ _ (b2i (inZ x.toInt 0 2)) _ _ dX6_isKind_9 hw (b2i_nar _) rfl ⟨rfl, rfl⟩
set_option maxHeartbeats 4000000 in
set_option maxRecDepth 20000 in
theorem k_X6_isBidder (l : Launch) (G : va_G) (Y : Nat → Nat) (a : Nat) (ρ : Nat → Nat) (x : Int32) (hI : Inv ρ) : CtI l yX6_isBidder cX6_isBidder 2 .boolean 1 25 [.ref a, .int x] [[(a, .inl (Y 0, 140, .inl (rowF ρ)))]] (fun r sg => r = b2i (inZ x.toInt 0 ((ρ 4 : Int) - 1)) ∧ sg = [[(a, .inl (Y 0, 140, .inl (rowF ρ)))]]) G Y := by
  refine x_ofI (by decide) (Nat.le_of_ble_eq_true rfl) (fun p e s m args below meth c A ls Q M hK hZ hw hl hret => ?_)
  obtain ⟨hx, hb, -⟩ := id M
  have hl : lv_has ls 2 [(0, .ref a), (1, .int x)] := hl
  have := hI.n6
  have := hI.over
  have := hI.keep
  have := hI.stepp
  refine lv_iload_n hx hb dX6_isBidder_0 rfl (lv_at hl 1 rfl) ?_
  refine lv_i2l (v := x.toInt64) hx hb dX6_isBidder_1 rfl ?_
  refine lv_lconst (v := 0) hx hb dX6_isBidder_2 (by decide) ?_
  refine lv_aload_n hx hb dX6_isBidder_3 rfl (lv_at hl 0 rfl) ?_
  refine lv_iconst (v := (nI 4)) hx hb dX6_isBidder_4 (by decide) ?_
  refine x_iald M hK hw 0 0 rfl rfl (by decide) (by decide) dX6_isBidder_5 ?_
  refine x_topN (n := ρ 4) rfl ?_
  have q_1 : ρ 4 ≤ 6 := hI.n6
  refine lv_iconst (v := (nI 1)) hx hb dX6_isBidder_6 (by decide) ?_
  refine lv_isub hx hb dX6_isBidder_7 ?_
  refine lv_i2l (v := ((nI (ρ 4)) - (nI 1)).toInt64) hx hb dX6_isBidder_8 rfl ?_
  refine x_cSI (As := [.long x.toInt64, .long 0, .long (((nI (ρ 4)) - (nI 1)).toInt64)]) (k_X6_in l G Y x.toInt64 0 (((nI (ρ 4)) - (nI 1)).toInt64)) cw_X6_45 [] M hK hZ hw hl.1 rfl (by decide) ⟨by decide, by decide⟩ ⟨Nat.zero_le _, Nat.zero_le _⟩ rfl rfl (Nat.le_of_ble_eq_true rfl) dX6_isBidder_9 (fun r sg h_2 H locs hw => ?_)
  obtain ⟨rfl, rfl⟩ := h_2
  have hw : xW G A s.heap [[(a, .inl (Y 0, 140, .inl (rowF ρ)))]] H locs := hw
  refine x_topI (y := b2i (inZ x.toInt 0 ((ρ 4 : Int) - 1))) (by rw [Int32.toInt_toInt64, Int32.toInt_toInt64, pk_sub_toInt (by omega) (by decide)]; rfl) ?_
  exact hret _ _ _ (b2i (inZ x.toInt 0 ((ρ 4 : Int) - 1))) _ _ dX6_isBidder_12 hw (b2i_nar _) rfl ⟨rfl, rfl⟩
set_option maxHeartbeats 4000000 in
set_option maxRecDepth 20000 in
theorem k_X6_at (l : Launch) (G : va_G) (Y : Nat → Nat) (b : Nat)  : CtI l yX6_at cX6_at 1 .int 0 0 [.int (nI b)] [] (fun r sg => r = nI (14 + 21 * b) ∧ sg = []) G Y := by
  refine x_ofI (by decide) (Nat.le_of_ble_eq_true rfl) (fun p e s m args below meth c A ls Q M hK hZ hw hl hret => ?_)
  obtain ⟨hx, hb, -⟩ := id M
  have hl : lv_has ls 1 [(0, .int (nI b))] := hl
  refine lv_bipush (v := (nI 14)) hx hb dX6_at_0 (by decide) ?_
  refine lv_bipush (v := (nI 21)) hx hb dX6_at_2 (by decide) ?_
  refine lv_iload_n hx hb dX6_at_4 rfl (lv_at hl 0 rfl) ?_
  refine x_imul M (n := 21 * b) dX6_at_5 (by omega) ?_
  refine x_iadd M (n := 14 + 21 * b) dX6_at_6 rfl ?_
  exact hret _ _ _ (nI (14 + 21 * b)) _ _ dX6_at_7 hw rfl rfl ⟨congrArg nI (by omega), rfl⟩
set_option maxHeartbeats 4000000 in
set_option maxRecDepth 20000 in
theorem k_X6_activity (l : Launch) (G : va_G) (Y : Nat → Nat) (a j : Nat) (ρ : Nat → Nat) (hI : Inv ρ) (hj : j < ρ 4) : CtI l yX6_activity cX6_activity 4 .int 1 20 [.ref a, .int (nI j)] [[(a, .inl (Y 0, 140, .inl (rowF ρ)))]] (fun r sg => r = nI (act ρ j) ∧ sg = [[(a, .inl (Y 0, 140, .inl (rowF ρ)))]]) G Y := by
  refine x_ofI (by decide) (Nat.le_of_ble_eq_true rfl) (fun p e s m args below meth c A ls Q M hK hZ hw hl hret => ?_)
  obtain ⟨hx, hb, -⟩ := id M
  have hl : lv_has ls 4 [(0, .ref a), (1, .int (nI j))] := hl
  have := hI.n6
  have := hI.over
  have := hI.keep
  have := hI.stepp
  refine lv_iconst (v := (nI 0)) hx hb dX6_activity_0 (by decide) ?_
  refine lv_istore_n (lv' := [(2, .int (nI 0)), (0, .ref a), (1, .int (nI j))]) hx hb dX6_activity_1 rfl hl (by decide) rfl (fun ls hl => ?_)
  refine lv_iconst (v := (nI 0)) hx hb dX6_activity_2 (by decide) ?_
  refine lv_istore_n (lv' := [(3, .int (nI 0)), (2, .int (nI 0)), (0, .ref a), (1, .int (nI j))]) hx hb dX6_activity_3 rfl hl (by decide) rfl (fun ls hl => ?_)
  refine lv_iload_n hx hb dX6_activity_4 rfl (lv_at hl 0 rfl) ?_
  refine lv_iconst (v := (nI 3)) hx hb dX6_activity_5 (by decide) ?_
  refine x_cge M (tgt := 35) (by decide) (by decide) dX6_activity_6 (by decide) (fun c_1 => absurd c_1 (by decide)) (fun c_1 => ?_)
  refine lv_iload_n hx hb dX6_activity_9 rfl (lv_at hl 1 rfl) ?_
  refine lv_aload_n hx hb dX6_activity_10 rfl (lv_at hl 2 rfl) ?_
  refine lv_bipush (v := (nI 8)) hx hb dX6_activity_11 (by decide) ?_
  refine lv_iload_n hx hb dX6_activity_13 rfl (lv_at hl 0 rfl) ?_
  refine x_iadd M (n := 8) dX6_activity_14 rfl ?_
  refine x_iald M hK hw 0 0 rfl rfl (by decide) (by decide) dX6_activity_15 ?_
  refine x_topN (n := ρ 8) rfl ?_
  have q_2 : 1 ≤ ρ 8 := (hI.pts (q := 8) (k := 0) (by decide) rfl).1
  have q_3 : ρ 8 ≤ 9 := (hI.pts (q := 8) (k := 0) (by decide) rfl).2
  refine lv_aload_n hx hb dX6_activity_16 rfl (lv_at hl 2 rfl) ?_
  refine lv_iload_n hx hb dX6_activity_17 rfl (lv_at hl 3 rfl) ?_
  refine x_cSI (As := [.int (nI j)]) (k_X6_at l G Y j) cw_X6_49 [] M hK hZ hw hl.1 rfl (by decide) ⟨by decide, by decide⟩ ⟨Nat.zero_le _, Nat.zero_le _⟩ rfl rfl (Nat.le_of_ble_eq_true rfl) dX6_activity_18 (fun r sg h_4 H locs hw => ?_)
  obtain ⟨rfl, rfl⟩ := h_4
  have hw : xW G A s.heap [[(a, .inl (Y 0, 140, .inl (rowF ρ)))]] H locs := hw
  refine lv_iconst (v := (nI 5)) hx hb dX6_activity_21 (by decide) ?_
  refine x_iadd M (n := 19 + 21 * j) dX6_activity_22 (by omega) ?_
  refine lv_iload_n hx hb dX6_activity_23 rfl (lv_at hl 0 rfl) ?_
  refine x_iadd M (n := 19 + 21 * j) dX6_activity_24 (by omega) ?_
  refine x_iald M hK hw 0 0 rfl rfl (by omega) (by decide) dX6_activity_25 ?_
  refine x_topN (n := ρ (19 + 21 * j)) rfl ?_
  have q_5 : ρ (19 + 21 * j) ≤ 9 := hI.dem (j := j) (by omega) (k := 0) (by decide) (by omega)
  refine x_imul M (n := (ρ 8) * (ρ (19 + 21 * j))) dX6_activity_26 rfl ?_
  have q_6 : (ρ 8) * (ρ (19 + 21 * j)) ≤ 81 := Nat.le_trans (Nat.mul_le_mul (show ρ 8 ≤ 9 by omega) (show ρ (19 + 21 * j) ≤ 9 by omega)) (by decide)
  refine x_iadd M (n := ((ρ 8) * (ρ (19 + 21 * j)))) dX6_activity_27 (by omega) ?_
  refine lv_istore_n (lv' := [(2, .int (nI ((ρ 8) * (ρ (19 + 21 * j))))), (3, .int (nI 0)), (0, .ref a), (1, .int (nI j))]) hx hb dX6_activity_28 rfl hl (by decide) rfl (fun ls hl => ?_)
  refine lv_iinc (v := (nI 1)) (lv' := [(3, .int (nI 1)), (2, .int (nI ((ρ 8) * (ρ (19 + 21 * j))))), (0, .ref a), (1, .int (nI j))]) hx hb dX6_activity_29 hl (k := 1) rfl (by decide) (by decide) rfl (fun ls hl => ?_)
  refine lv_goto (tgt := 4) hx hb dX6_activity_32 (by decide) ?_
  refine lv_iload_n hx hb dX6_activity_4 rfl (lv_at hl 0 rfl) ?_
  refine lv_iconst (v := (nI 3)) hx hb dX6_activity_5 (by decide) ?_
  refine x_cge M (tgt := 35) (by decide) (by decide) dX6_activity_6 (by decide) (fun c_7 => absurd c_7 (by decide)) (fun c_7 => ?_)
  refine lv_iload_n hx hb dX6_activity_9 rfl (lv_at hl 1 rfl) ?_
  refine lv_aload_n hx hb dX6_activity_10 rfl (lv_at hl 2 rfl) ?_
  refine lv_bipush (v := (nI 8)) hx hb dX6_activity_11 (by decide) ?_
  refine lv_iload_n hx hb dX6_activity_13 rfl (lv_at hl 0 rfl) ?_
  refine x_iadd M (n := 9) dX6_activity_14 rfl ?_
  refine x_iald M hK hw 0 0 rfl rfl (by decide) (by decide) dX6_activity_15 ?_
  refine x_topN (n := ρ 9) rfl ?_
  have q_8 : 1 ≤ ρ 9 := (hI.pts (q := 9) (k := 1) (by decide) rfl).1
  have q_9 : ρ 9 ≤ 9 := (hI.pts (q := 9) (k := 1) (by decide) rfl).2
  refine lv_aload_n hx hb dX6_activity_16 rfl (lv_at hl 2 rfl) ?_
  refine lv_iload_n hx hb dX6_activity_17 rfl (lv_at hl 3 rfl) ?_
  refine x_cSI (As := [.int (nI j)]) (k_X6_at l G Y j) cw_X6_49 [] M hK hZ hw hl.1 rfl (by decide) ⟨by decide, by decide⟩ ⟨Nat.zero_le _, Nat.zero_le _⟩ rfl rfl (Nat.le_of_ble_eq_true rfl) dX6_activity_18 (fun r sg h_10 H locs hw => ?_)
  obtain ⟨rfl, rfl⟩ := h_10
  have hw : xW G A s.heap [[(a, .inl (Y 0, 140, .inl (rowF ρ)))]] H locs := hw
  refine lv_iconst (v := (nI 5)) hx hb dX6_activity_21 (by decide) ?_
  refine x_iadd M (n := 19 + 21 * j) dX6_activity_22 (by omega) ?_
  refine lv_iload_n hx hb dX6_activity_23 rfl (lv_at hl 0 rfl) ?_
  refine x_iadd M (n := 20 + 21 * j) dX6_activity_24 (by omega) ?_
  refine x_iald M hK hw 0 0 rfl rfl (by omega) (by decide) dX6_activity_25 ?_
  refine x_topN (n := ρ (20 + 21 * j)) rfl ?_
  have q_11 : ρ (20 + 21 * j) ≤ 9 := hI.dem (j := j) (by omega) (k := 1) (by decide) (by omega)
  refine x_imul M (n := (ρ 9) * (ρ (20 + 21 * j))) dX6_activity_26 rfl ?_
  have q_12 : (ρ 9) * (ρ (20 + 21 * j)) ≤ 81 := Nat.le_trans (Nat.mul_le_mul (show ρ 9 ≤ 9 by omega) (show ρ (20 + 21 * j) ≤ 9 by omega)) (by decide)
  refine x_iadd M (n := ((ρ 8) * (ρ (19 + 21 * j))) + ((ρ 9) * (ρ (20 + 21 * j)))) dX6_activity_27 rfl ?_
  refine lv_istore_n (lv' := [(2, .int (nI (((ρ 8) * (ρ (19 + 21 * j))) + ((ρ 9) * (ρ (20 + 21 * j)))))), (3, .int (nI 1)), (0, .ref a), (1, .int (nI j))]) hx hb dX6_activity_28 rfl hl (by decide) rfl (fun ls hl => ?_)
  refine lv_iinc (v := (nI 2)) (lv' := [(3, .int (nI 2)), (2, .int (nI (((ρ 8) * (ρ (19 + 21 * j))) + ((ρ 9) * (ρ (20 + 21 * j)))))), (0, .ref a), (1, .int (nI j))]) hx hb dX6_activity_29 hl (k := 1) rfl (by decide) (by decide) rfl (fun ls hl => ?_)
  refine lv_goto (tgt := 4) hx hb dX6_activity_32 (by decide) ?_
  refine lv_iload_n hx hb dX6_activity_4 rfl (lv_at hl 0 rfl) ?_
  refine lv_iconst (v := (nI 3)) hx hb dX6_activity_5 (by decide) ?_
  refine x_cge M (tgt := 35) (by decide) (by decide) dX6_activity_6 (by decide) (fun c_13 => absurd c_13 (by decide)) (fun c_13 => ?_)
  refine lv_iload_n hx hb dX6_activity_9 rfl (lv_at hl 1 rfl) ?_
  refine lv_aload_n hx hb dX6_activity_10 rfl (lv_at hl 2 rfl) ?_
  refine lv_bipush (v := (nI 8)) hx hb dX6_activity_11 (by decide) ?_
  refine lv_iload_n hx hb dX6_activity_13 rfl (lv_at hl 0 rfl) ?_
  refine x_iadd M (n := 10) dX6_activity_14 rfl ?_
  refine x_iald M hK hw 0 0 rfl rfl (by decide) (by decide) dX6_activity_15 ?_
  refine x_topN (n := ρ 10) rfl ?_
  have q_14 : 1 ≤ ρ 10 := (hI.pts (q := 10) (k := 2) (by decide) rfl).1
  have q_15 : ρ 10 ≤ 9 := (hI.pts (q := 10) (k := 2) (by decide) rfl).2
  refine lv_aload_n hx hb dX6_activity_16 rfl (lv_at hl 2 rfl) ?_
  refine lv_iload_n hx hb dX6_activity_17 rfl (lv_at hl 3 rfl) ?_
  refine x_cSI (As := [.int (nI j)]) (k_X6_at l G Y j) cw_X6_49 [] M hK hZ hw hl.1 rfl (by decide) ⟨by decide, by decide⟩ ⟨Nat.zero_le _, Nat.zero_le _⟩ rfl rfl (Nat.le_of_ble_eq_true rfl) dX6_activity_18 (fun r sg h_16 H locs hw => ?_)
  obtain ⟨rfl, rfl⟩ := h_16
  have hw : xW G A s.heap [[(a, .inl (Y 0, 140, .inl (rowF ρ)))]] H locs := hw
  refine lv_iconst (v := (nI 5)) hx hb dX6_activity_21 (by decide) ?_
  refine x_iadd M (n := 19 + 21 * j) dX6_activity_22 (by omega) ?_
  refine lv_iload_n hx hb dX6_activity_23 rfl (lv_at hl 0 rfl) ?_
  refine x_iadd M (n := 21 + 21 * j) dX6_activity_24 (by omega) ?_
  refine x_iald M hK hw 0 0 rfl rfl (by omega) (by decide) dX6_activity_25 ?_
  refine x_topN (n := ρ (21 + 21 * j)) rfl ?_
  have q_17 : ρ (21 + 21 * j) ≤ 9 := hI.dem (j := j) (by omega) (k := 2) (by decide) (by omega)
  refine x_imul M (n := (ρ 10) * (ρ (21 + 21 * j))) dX6_activity_26 rfl ?_
  have q_18 : (ρ 10) * (ρ (21 + 21 * j)) ≤ 81 := Nat.le_trans (Nat.mul_le_mul (show ρ 10 ≤ 9 by omega) (show ρ (21 + 21 * j) ≤ 9 by omega)) (by decide)
  refine x_iadd M (n := ((ρ 8) * (ρ (19 + 21 * j))) + ((ρ 9) * (ρ (20 + 21 * j))) + ((ρ 10) * (ρ (21 + 21 * j)))) dX6_activity_27 rfl ?_
  refine lv_istore_n (lv' := [(2, .int (nI (((ρ 8) * (ρ (19 + 21 * j))) + ((ρ 9) * (ρ (20 + 21 * j))) + ((ρ 10) * (ρ (21 + 21 * j)))))), (3, .int (nI 2)), (0, .ref a), (1, .int (nI j))]) hx hb dX6_activity_28 rfl hl (by decide) rfl (fun ls hl => ?_)
  refine lv_iinc (v := (nI 3)) (lv' := [(3, .int (nI 3)), (2, .int (nI (((ρ 8) * (ρ (19 + 21 * j))) + ((ρ 9) * (ρ (20 + 21 * j))) + ((ρ 10) * (ρ (21 + 21 * j)))))), (0, .ref a), (1, .int (nI j))]) hx hb dX6_activity_29 hl (k := 1) rfl (by decide) (by decide) rfl (fun ls hl => ?_)
  refine lv_goto (tgt := 4) hx hb dX6_activity_32 (by decide) ?_
  refine lv_iload_n hx hb dX6_activity_4 rfl (lv_at hl 0 rfl) ?_
  refine lv_iconst (v := (nI 3)) hx hb dX6_activity_5 (by decide) ?_
  refine x_cge M (tgt := 35) (by decide) (by decide) dX6_activity_6 (by decide) (fun c_19 => ?_) (fun c_19 => absurd c_19 (by decide))
  refine lv_iload_n hx hb dX6_activity_35 rfl (lv_at hl 1 rfl) ?_
  exact hret _ _ _ (nI (((ρ 8) * (ρ (19 + 21 * j))) + ((ρ 9) * (ρ (20 + 21 * j))) + ((ρ 10) * (ρ (21 + 21 * j))))) _ _ dX6_activity_36 hw rfl rfl ⟨congrArg nI (by simp only [act]), rfl⟩
set_option maxHeartbeats 4000000 in
set_option maxRecDepth 20000 in
theorem k_X6_asked (l : Launch) (G : va_G) (Y : Nat → Nat) (a k : Nat) (ρ : Nat → Nat) (hI : Inv ρ) (hk : k < 3) : CtI l yX6_asked cX6_asked 4 .int 1 20 [.ref a, .int (nI k)] [[(a, .inl (Y 0, 140, .inl (rowF ρ)))]] (fun r sg => r = nI (askedOf ρ k) ∧ sg = [[(a, .inl (Y 0, 140, .inl (rowF ρ)))]]) G Y := by
  refine x_ofI (by decide) (Nat.le_of_ble_eq_true rfl) (fun p e s m args below meth c A ls Q M hK hZ hw hl hret => ?_)
  obtain ⟨hx, hb, -⟩ := id M
  have hl : lv_has ls 4 [(0, .ref a), (1, .int (nI k))] := hl
  have := hI.n6
  have := hI.over
  have := hI.keep
  have := hI.stepp
  refine lv_iconst (v := (nI 0)) hx hb dX6_asked_0 (by decide) ?_
  refine lv_istore_n (lv' := [(2, .int (nI 0)), (0, .ref a), (1, .int (nI k))]) hx hb dX6_asked_1 rfl hl (by decide) rfl (fun ls hl => ?_)
  refine lv_iconst (v := (nI 0)) hx hb dX6_asked_2 (by decide) ?_
  refine lv_istore_n (lv' := [(3, .int (nI 0)), (2, .int (nI 0)), (0, .ref a), (1, .int (nI k))]) hx hb dX6_asked_3 rfl hl (by decide) rfl (fun ls hl => ?_)
  have L4 : ∀ (fu : Nat) (i : Nat) (x : Nat), (ρ 4 - i < fu) → (i ≤ ρ 4) → (x = sumB (fun b => ρ (19 + 21 * b + k)) i) → ∀ (H : Heap) (locs : List Loc), xW G A s.heap [[(a, .inl (Y 0, 140, .inl (rowF ρ)))]] H locs → ∀ (ls : Array Slot), lv_has ls 4 [(0, .ref a), (1, .int (nI k)), (2, .int (nI x)), (3, .int (nI i))] → W p l e (xRm 1 20) s m args below meth c H locs 0 0 Q (F0 m 4 ls []) := by
    intro fu
    induction fu with
    | zero => intro i x hm; exact absurd hm (Nat.not_lt_zero _)
    | succ fu ih4 =>
      intro i x hm hi hx2 H locs hw ls hl
      refine lv_iload_n hx hb dX6_asked_4 rfl (lv_at hl 3 rfl) ?_
      refine lv_aload_n hx hb dX6_asked_5 rfl (lv_at hl 0 rfl) ?_
      refine lv_iconst (v := (nI 4)) hx hb dX6_asked_6 (by decide) ?_
      refine x_iald M hK hw 0 0 rfl rfl (by decide) (by decide) dX6_asked_7 ?_
      refine x_topN (n := ρ 4) rfl ?_
      have q_1 : ρ 4 ≤ 6 := hI.n6
      refine x_cge M (tgt := 30) (by omega) (by omega) dX6_asked_8 (by decide) (fun c_2 => ?_) (fun c_2 => ?_)
      · refine lv_iload_n hx hb dX6_asked_30 rfl (lv_at hl 2 rfl) ?_
        exact hret _ _ _ (nI x) _ _ dX6_asked_31 hw rfl rfl ⟨by rw [hx2, show i = ρ 4 by omega]; rfl, rfl⟩
      refine lv_iload_n hx hb dX6_asked_11 rfl (lv_at hl 2 rfl) ?_
      refine lv_aload_n hx hb dX6_asked_12 rfl (lv_at hl 0 rfl) ?_
      refine lv_iload_n hx hb dX6_asked_13 rfl (lv_at hl 3 rfl) ?_
      refine x_cSI (As := [.int (nI i)]) (k_X6_at l G Y i) cw_X6_49 [] M hK hZ hw hl.1 rfl (by decide) ⟨by decide, by decide⟩ ⟨Nat.zero_le _, Nat.zero_le _⟩ rfl rfl (Nat.le_of_ble_eq_true rfl) dX6_asked_14 (fun r sg h_3 H locs hw => ?_)
      obtain ⟨rfl, rfl⟩ := h_3
      have hw : xW G A s.heap [[(a, .inl (Y 0, 140, .inl (rowF ρ)))]] H locs := hw
      refine lv_iconst (v := (nI 5)) hx hb dX6_asked_17 (by decide) ?_
      refine x_iadd M (n := 19 + 21 * i) dX6_asked_18 (by omega) ?_
      refine lv_iload_n hx hb dX6_asked_19 rfl (lv_at hl 1 rfl) ?_
      refine x_iadd M (n := 19 + 21 * i + k) dX6_asked_20 rfl ?_
      refine x_iald M hK hw 0 0 rfl rfl (by omega) (by decide) dX6_asked_21 ?_
      refine x_topN (n := ρ (19 + 21 * i + k)) rfl ?_
      have q_4 : ρ (19 + 21 * i + k) ≤ 9 := hI.dem (j := i) (by omega) (k := k) (by omega) (by omega)
      refine x_iadd M (n := x + ρ (19 + 21 * i + k)) dX6_asked_22 rfl ?_
      refine lv_istore_n (lv' := [(2, .int (nI (x + ρ (19 + 21 * i + k)))), (0, .ref a), (1, .int (nI k)), (3, .int (nI i))]) hx hb dX6_asked_23 rfl hl (by decide) rfl (fun ls hl => ?_)
      refine lv_iinc (v := (nI (1 + i))) (lv' := [(3, .int (nI (1 + i))), (2, .int (nI (x + ρ (19 + 21 * i + k)))), (0, .ref a), (1, .int (nI k))]) hx hb dX6_asked_24 hl (k := 3) rfl (by rw [show (1 : Int) = ((1 : Nat) : Int) from rfl, nI_inc]; exact congrArg nI (by omega)) (by decide) rfl (fun ls hl => ?_)
      refine lv_goto (tgt := 4) hx hb dX6_asked_27 (by decide) ?_
      exact ih4 (1 + i) (x + ρ (19 + 21 * i + k)) (by omega) (by omega) (by rw [sumB_1, ← hx2]) _ _ hw _ (lv_sub hl [2, 3, 1, 0] rfl)
  exact L4 (ρ 4 - 0 + 1) 0 0 (Nat.lt_succ_self _) (by omega) (rfl) _ _ hw _ (lv_sub hl [2, 3, 1, 0] rfl)
set_option maxHeartbeats 4000000 in
set_option maxRecDepth 20000 in
theorem k_X6_excess (l : Launch) (G : va_G) (Y : Nat → Nat) (a : Nat) (ρ : Nat → Nat) (hI : Inv ρ) : CtI l yX6_excess cX6_excess 3 .int 2 43 [.ref a] [[(a, .inl (Y 0, 140, .inl (rowF ρ)))]] (fun r sg => r = nI (scarce ρ) ∧ sg = [[(a, .inl (Y 0, 140, .inl (rowF ρ)))]]) G Y := by
  refine x_ofI (by decide) (Nat.le_of_ble_eq_true rfl) (fun p e s m args below meth c A ls Q M hK hZ hw hl hret => ?_)
  obtain ⟨hx, hb, -⟩ := id M
  have hl : lv_has ls 3 [(0, .ref a)] := hl
  have := hI.n6
  have := hI.over
  have := hI.keep
  have := hI.stepp
  refine lv_iconst (v := (nI 0)) hx hb dX6_excess_0 (by decide) ?_
  refine lv_istore_n (lv' := [(1, .int (nI 0)), (0, .ref a)]) hx hb dX6_excess_1 rfl hl (by decide) rfl (fun ls hl => ?_)
  refine lv_iconst (v := (nI 0)) hx hb dX6_excess_2 (by decide) ?_
  refine lv_istore_n (lv' := [(2, .int (nI 0)), (1, .int (nI 0)), (0, .ref a)]) hx hb dX6_excess_3 rfl hl (by decide) rfl (fun ls hl => ?_)
  refine lv_iload_n hx hb dX6_excess_4 rfl (lv_at hl 0 rfl) ?_
  refine lv_iconst (v := (nI 3)) hx hb dX6_excess_5 (by decide) ?_
  refine x_cge M (tgt := 36) (by decide) (by decide) dX6_excess_6 (by decide) (fun c_1 => absurd c_1 (by decide)) (fun c_1 => ?_)
  refine lv_iload_n hx hb dX6_excess_9 rfl (lv_at hl 1 rfl) ?_
  refine lv_aload_n hx hb dX6_excess_10 rfl (lv_at hl 2 rfl) ?_
  refine lv_iload_n hx hb dX6_excess_11 rfl (lv_at hl 0 rfl) ?_
  refine x_cSI (As := [.ref a, .int (nI 0)]) (k_X6_asked l G Y a 0 ρ (hI) (by omega)) cw_X6_53 [0] M hK hZ hw hl.1 rfl (by decide) ⟨by decide, by decide⟩ ⟨Nat.zero_le _, Nat.zero_le _⟩ rfl rfl (Nat.le_of_ble_eq_true rfl) dX6_excess_12 (fun r sg h_2 H locs hw => ?_)
  obtain ⟨rfl, rfl⟩ := h_2
  have hw : xW G A s.heap [[(a, .inl (Y 0, 140, .inl (rowF ρ)))]] H locs := hw
  have q_3 : askedOf ρ 0 ≤ 54 := askedOf_le hI (by omega)
  refine lv_aload_n hx hb dX6_excess_15 rfl (lv_at hl 2 rfl) ?_
  refine lv_iconst (v := (nI 5)) hx hb dX6_excess_16 (by decide) ?_
  refine lv_iload_n hx hb dX6_excess_17 rfl (lv_at hl 0 rfl) ?_
  refine x_iadd M (n := 5) dX6_excess_18 rfl ?_
  refine x_iald M hK hw 0 0 rfl rfl (by decide) (by decide) dX6_excess_19 ?_
  refine x_topN (n := ρ 5) rfl ?_
  have q_4 : 1 ≤ ρ 5 := (hI.sup (q := 5) (k := 0) (by decide) rfl).1
  have q_5 : ρ 5 ≤ 9 := (hI.sup (q := 5) (k := 0) (by decide) rfl).2
  refine x_cle M (tgt := 27) (by omega) (by omega) dX6_excess_20 (by decide) (fun c_6 => ?_) (fun c_6 => ?_)
  · refine lv_iconst (v := (nI 0)) hx hb dX6_excess_27 (by decide) ?_
    refine x_iadd M (n := 0) dX6_excess_28 rfl ?_
    refine lv_istore_n (lv' := [(1, .int (nI 0)), (2, .int (nI 0)), (0, .ref a)]) hx hb dX6_excess_29 rfl hl (by decide) rfl (fun ls hl => ?_)
    refine lv_iinc (v := (nI 1)) (lv' := [(2, .int (nI 1)), (1, .int (nI 0)), (0, .ref a)]) hx hb dX6_excess_30 hl (k := 1) rfl (by decide) (by decide) rfl (fun ls hl => ?_)
    refine lv_goto (tgt := 4) hx hb dX6_excess_33 (by decide) ?_
    refine lv_iload_n hx hb dX6_excess_4 rfl (lv_at hl 0 rfl) ?_
    refine lv_iconst (v := (nI 3)) hx hb dX6_excess_5 (by decide) ?_
    refine x_cge M (tgt := 36) (by decide) (by decide) dX6_excess_6 (by decide) (fun c_7 => absurd c_7 (by decide)) (fun c_7 => ?_)
    refine lv_iload_n hx hb dX6_excess_9 rfl (lv_at hl 1 rfl) ?_
    refine lv_aload_n hx hb dX6_excess_10 rfl (lv_at hl 2 rfl) ?_
    refine lv_iload_n hx hb dX6_excess_11 rfl (lv_at hl 0 rfl) ?_
    refine x_cSI (As := [.ref a, .int (nI 1)]) (k_X6_asked l G Y a 1 ρ (hI) (by omega)) cw_X6_53 [0] M hK hZ hw hl.1 rfl (by decide) ⟨by decide, by decide⟩ ⟨Nat.zero_le _, Nat.zero_le _⟩ rfl rfl (Nat.le_of_ble_eq_true rfl) dX6_excess_12 (fun r sg h_8 H locs hw => ?_)
    obtain ⟨rfl, rfl⟩ := h_8
    have hw : xW G A s.heap [[(a, .inl (Y 0, 140, .inl (rowF ρ)))]] H locs := hw
    have q_9 : askedOf ρ 1 ≤ 54 := askedOf_le hI (by omega)
    refine lv_aload_n hx hb dX6_excess_15 rfl (lv_at hl 2 rfl) ?_
    refine lv_iconst (v := (nI 5)) hx hb dX6_excess_16 (by decide) ?_
    refine lv_iload_n hx hb dX6_excess_17 rfl (lv_at hl 0 rfl) ?_
    refine x_iadd M (n := 6) dX6_excess_18 rfl ?_
    refine x_iald M hK hw 0 0 rfl rfl (by decide) (by decide) dX6_excess_19 ?_
    refine x_topN (n := ρ 6) rfl ?_
    have q_10 : 1 ≤ ρ 6 := (hI.sup (q := 6) (k := 1) (by decide) rfl).1
    have q_11 : ρ 6 ≤ 9 := (hI.sup (q := 6) (k := 1) (by decide) rfl).2
    refine x_cle M (tgt := 27) (by omega) (by omega) dX6_excess_20 (by decide) (fun c_12 => ?_) (fun c_12 => ?_)
    · refine lv_iconst (v := (nI 0)) hx hb dX6_excess_27 (by decide) ?_
      refine x_iadd M (n := 0) dX6_excess_28 rfl ?_
      refine lv_istore_n (lv' := [(1, .int (nI 0)), (2, .int (nI 1)), (0, .ref a)]) hx hb dX6_excess_29 rfl hl (by decide) rfl (fun ls hl => ?_)
      refine lv_iinc (v := (nI 2)) (lv' := [(2, .int (nI 2)), (1, .int (nI 0)), (0, .ref a)]) hx hb dX6_excess_30 hl (k := 1) rfl (by decide) (by decide) rfl (fun ls hl => ?_)
      refine lv_goto (tgt := 4) hx hb dX6_excess_33 (by decide) ?_
      refine lv_iload_n hx hb dX6_excess_4 rfl (lv_at hl 0 rfl) ?_
      refine lv_iconst (v := (nI 3)) hx hb dX6_excess_5 (by decide) ?_
      refine x_cge M (tgt := 36) (by decide) (by decide) dX6_excess_6 (by decide) (fun c_13 => absurd c_13 (by decide)) (fun c_13 => ?_)
      refine lv_iload_n hx hb dX6_excess_9 rfl (lv_at hl 1 rfl) ?_
      refine lv_aload_n hx hb dX6_excess_10 rfl (lv_at hl 2 rfl) ?_
      refine lv_iload_n hx hb dX6_excess_11 rfl (lv_at hl 0 rfl) ?_
      refine x_cSI (As := [.ref a, .int (nI 2)]) (k_X6_asked l G Y a 2 ρ (hI) (by omega)) cw_X6_53 [0] M hK hZ hw hl.1 rfl (by decide) ⟨by decide, by decide⟩ ⟨Nat.zero_le _, Nat.zero_le _⟩ rfl rfl (Nat.le_of_ble_eq_true rfl) dX6_excess_12 (fun r sg h_14 H locs hw => ?_)
      obtain ⟨rfl, rfl⟩ := h_14
      have hw : xW G A s.heap [[(a, .inl (Y 0, 140, .inl (rowF ρ)))]] H locs := hw
      have q_15 : askedOf ρ 2 ≤ 54 := askedOf_le hI (by omega)
      refine lv_aload_n hx hb dX6_excess_15 rfl (lv_at hl 2 rfl) ?_
      refine lv_iconst (v := (nI 5)) hx hb dX6_excess_16 (by decide) ?_
      refine lv_iload_n hx hb dX6_excess_17 rfl (lv_at hl 0 rfl) ?_
      refine x_iadd M (n := 7) dX6_excess_18 rfl ?_
      refine x_iald M hK hw 0 0 rfl rfl (by decide) (by decide) dX6_excess_19 ?_
      refine x_topN (n := ρ 7) rfl ?_
      have q_16 : 1 ≤ ρ 7 := (hI.sup (q := 7) (k := 2) (by decide) rfl).1
      have q_17 : ρ 7 ≤ 9 := (hI.sup (q := 7) (k := 2) (by decide) rfl).2
      refine x_cle M (tgt := 27) (by omega) (by omega) dX6_excess_20 (by decide) (fun c_18 => ?_) (fun c_18 => ?_)
      · refine lv_iconst (v := (nI 0)) hx hb dX6_excess_27 (by decide) ?_
        refine x_iadd M (n := 0) dX6_excess_28 rfl ?_
        refine lv_istore_n (lv' := [(1, .int (nI 0)), (2, .int (nI 2)), (0, .ref a)]) hx hb dX6_excess_29 rfl hl (by decide) rfl (fun ls hl => ?_)
        refine lv_iinc (v := (nI 3)) (lv' := [(2, .int (nI 3)), (1, .int (nI 0)), (0, .ref a)]) hx hb dX6_excess_30 hl (k := 1) rfl (by decide) (by decide) rfl (fun ls hl => ?_)
        refine lv_goto (tgt := 4) hx hb dX6_excess_33 (by decide) ?_
        refine lv_iload_n hx hb dX6_excess_4 rfl (lv_at hl 0 rfl) ?_
        refine lv_iconst (v := (nI 3)) hx hb dX6_excess_5 (by decide) ?_
        refine x_cge M (tgt := 36) (by decide) (by decide) dX6_excess_6 (by decide) (fun c_19 => ?_) (fun c_19 => absurd c_19 (by decide))
        refine lv_iload_n hx hb dX6_excess_36 rfl (lv_at hl 1 rfl) ?_
        exact hret _ _ _ (nI 0) _ _ dX6_excess_37 hw rfl rfl ⟨congrArg nI (by simp only [scarce, scar, Nat.reduceAdd]; rw [if_neg (by omega)]; rw [if_neg (by omega)]; rw [if_neg (by omega)]), rfl⟩
      refine lv_iconst (v := (nI 1)) hx hb dX6_excess_23 (by decide) ?_
      refine lv_goto (tgt := 28) hx hb dX6_excess_24 (by decide) ?_
      refine x_iadd M (n := 1) dX6_excess_28 rfl ?_
      refine lv_istore_n (lv' := [(1, .int (nI 1)), (2, .int (nI 2)), (0, .ref a)]) hx hb dX6_excess_29 rfl hl (by decide) rfl (fun ls hl => ?_)
      refine lv_iinc (v := (nI 3)) (lv' := [(2, .int (nI 3)), (1, .int (nI 1)), (0, .ref a)]) hx hb dX6_excess_30 hl (k := 1) rfl (by decide) (by decide) rfl (fun ls hl => ?_)
      refine lv_goto (tgt := 4) hx hb dX6_excess_33 (by decide) ?_
      refine lv_iload_n hx hb dX6_excess_4 rfl (lv_at hl 0 rfl) ?_
      refine lv_iconst (v := (nI 3)) hx hb dX6_excess_5 (by decide) ?_
      refine x_cge M (tgt := 36) (by decide) (by decide) dX6_excess_6 (by decide) (fun c_20 => ?_) (fun c_20 => absurd c_20 (by decide))
      refine lv_iload_n hx hb dX6_excess_36 rfl (lv_at hl 1 rfl) ?_
      exact hret _ _ _ (nI 1) _ _ dX6_excess_37 hw rfl rfl ⟨congrArg nI (by simp only [scarce, scar, Nat.reduceAdd]; rw [if_neg (by omega)]; rw [if_neg (by omega)]; rw [if_pos (by omega)]), rfl⟩
    refine lv_iconst (v := (nI 1)) hx hb dX6_excess_23 (by decide) ?_
    refine lv_goto (tgt := 28) hx hb dX6_excess_24 (by decide) ?_
    refine x_iadd M (n := 1) dX6_excess_28 rfl ?_
    refine lv_istore_n (lv' := [(1, .int (nI 1)), (2, .int (nI 1)), (0, .ref a)]) hx hb dX6_excess_29 rfl hl (by decide) rfl (fun ls hl => ?_)
    refine lv_iinc (v := (nI 2)) (lv' := [(2, .int (nI 2)), (1, .int (nI 1)), (0, .ref a)]) hx hb dX6_excess_30 hl (k := 1) rfl (by decide) (by decide) rfl (fun ls hl => ?_)
    refine lv_goto (tgt := 4) hx hb dX6_excess_33 (by decide) ?_
    refine lv_iload_n hx hb dX6_excess_4 rfl (lv_at hl 0 rfl) ?_
    refine lv_iconst (v := (nI 3)) hx hb dX6_excess_5 (by decide) ?_
    refine x_cge M (tgt := 36) (by decide) (by decide) dX6_excess_6 (by decide) (fun c_21 => absurd c_21 (by decide)) (fun c_21 => ?_)
    refine lv_iload_n hx hb dX6_excess_9 rfl (lv_at hl 1 rfl) ?_
    refine lv_aload_n hx hb dX6_excess_10 rfl (lv_at hl 2 rfl) ?_
    refine lv_iload_n hx hb dX6_excess_11 rfl (lv_at hl 0 rfl) ?_
    refine x_cSI (As := [.ref a, .int (nI 2)]) (k_X6_asked l G Y a 2 ρ (hI) (by omega)) cw_X6_53 [0] M hK hZ hw hl.1 rfl (by decide) ⟨by decide, by decide⟩ ⟨Nat.zero_le _, Nat.zero_le _⟩ rfl rfl (Nat.le_of_ble_eq_true rfl) dX6_excess_12 (fun r sg h_22 H locs hw => ?_)
    obtain ⟨rfl, rfl⟩ := h_22
    have hw : xW G A s.heap [[(a, .inl (Y 0, 140, .inl (rowF ρ)))]] H locs := hw
    have q_23 : askedOf ρ 2 ≤ 54 := askedOf_le hI (by omega)
    refine lv_aload_n hx hb dX6_excess_15 rfl (lv_at hl 2 rfl) ?_
    refine lv_iconst (v := (nI 5)) hx hb dX6_excess_16 (by decide) ?_
    refine lv_iload_n hx hb dX6_excess_17 rfl (lv_at hl 0 rfl) ?_
    refine x_iadd M (n := 7) dX6_excess_18 rfl ?_
    refine x_iald M hK hw 0 0 rfl rfl (by decide) (by decide) dX6_excess_19 ?_
    refine x_topN (n := ρ 7) rfl ?_
    have q_24 : 1 ≤ ρ 7 := (hI.sup (q := 7) (k := 2) (by decide) rfl).1
    have q_25 : ρ 7 ≤ 9 := (hI.sup (q := 7) (k := 2) (by decide) rfl).2
    refine x_cle M (tgt := 27) (by omega) (by omega) dX6_excess_20 (by decide) (fun c_26 => ?_) (fun c_26 => ?_)
    · refine lv_iconst (v := (nI 0)) hx hb dX6_excess_27 (by decide) ?_
      refine x_iadd M (n := 1) dX6_excess_28 rfl ?_
      refine lv_istore_n (lv' := [(1, .int (nI 1)), (2, .int (nI 2)), (0, .ref a)]) hx hb dX6_excess_29 rfl hl (by decide) rfl (fun ls hl => ?_)
      refine lv_iinc (v := (nI 3)) (lv' := [(2, .int (nI 3)), (1, .int (nI 1)), (0, .ref a)]) hx hb dX6_excess_30 hl (k := 1) rfl (by decide) (by decide) rfl (fun ls hl => ?_)
      refine lv_goto (tgt := 4) hx hb dX6_excess_33 (by decide) ?_
      refine lv_iload_n hx hb dX6_excess_4 rfl (lv_at hl 0 rfl) ?_
      refine lv_iconst (v := (nI 3)) hx hb dX6_excess_5 (by decide) ?_
      refine x_cge M (tgt := 36) (by decide) (by decide) dX6_excess_6 (by decide) (fun c_27 => ?_) (fun c_27 => absurd c_27 (by decide))
      refine lv_iload_n hx hb dX6_excess_36 rfl (lv_at hl 1 rfl) ?_
      exact hret _ _ _ (nI 1) _ _ dX6_excess_37 hw rfl rfl ⟨congrArg nI (by simp only [scarce, scar, Nat.reduceAdd]; rw [if_neg (by omega)]; rw [if_pos (by omega)]; rw [if_neg (by omega)]), rfl⟩
    refine lv_iconst (v := (nI 1)) hx hb dX6_excess_23 (by decide) ?_
    refine lv_goto (tgt := 28) hx hb dX6_excess_24 (by decide) ?_
    refine x_iadd M (n := 2) dX6_excess_28 rfl ?_
    refine lv_istore_n (lv' := [(1, .int (nI 2)), (2, .int (nI 2)), (0, .ref a)]) hx hb dX6_excess_29 rfl hl (by decide) rfl (fun ls hl => ?_)
    refine lv_iinc (v := (nI 3)) (lv' := [(2, .int (nI 3)), (1, .int (nI 2)), (0, .ref a)]) hx hb dX6_excess_30 hl (k := 1) rfl (by decide) (by decide) rfl (fun ls hl => ?_)
    refine lv_goto (tgt := 4) hx hb dX6_excess_33 (by decide) ?_
    refine lv_iload_n hx hb dX6_excess_4 rfl (lv_at hl 0 rfl) ?_
    refine lv_iconst (v := (nI 3)) hx hb dX6_excess_5 (by decide) ?_
    refine x_cge M (tgt := 36) (by decide) (by decide) dX6_excess_6 (by decide) (fun c_28 => ?_) (fun c_28 => absurd c_28 (by decide))
    refine lv_iload_n hx hb dX6_excess_36 rfl (lv_at hl 1 rfl) ?_
    exact hret _ _ _ (nI 2) _ _ dX6_excess_37 hw rfl rfl ⟨congrArg nI (by simp only [scarce, scar, Nat.reduceAdd]; rw [if_neg (by omega)]; rw [if_pos (by omega)]; rw [if_pos (by omega)]), rfl⟩
  refine lv_iconst (v := (nI 1)) hx hb dX6_excess_23 (by decide) ?_
  refine lv_goto (tgt := 28) hx hb dX6_excess_24 (by decide) ?_
  refine x_iadd M (n := 1) dX6_excess_28 rfl ?_
  refine lv_istore_n (lv' := [(1, .int (nI 1)), (2, .int (nI 0)), (0, .ref a)]) hx hb dX6_excess_29 rfl hl (by decide) rfl (fun ls hl => ?_)
  refine lv_iinc (v := (nI 1)) (lv' := [(2, .int (nI 1)), (1, .int (nI 1)), (0, .ref a)]) hx hb dX6_excess_30 hl (k := 1) rfl (by decide) (by decide) rfl (fun ls hl => ?_)
  refine lv_goto (tgt := 4) hx hb dX6_excess_33 (by decide) ?_
  refine lv_iload_n hx hb dX6_excess_4 rfl (lv_at hl 0 rfl) ?_
  refine lv_iconst (v := (nI 3)) hx hb dX6_excess_5 (by decide) ?_
  refine x_cge M (tgt := 36) (by decide) (by decide) dX6_excess_6 (by decide) (fun c_29 => absurd c_29 (by decide)) (fun c_29 => ?_)
  refine lv_iload_n hx hb dX6_excess_9 rfl (lv_at hl 1 rfl) ?_
  refine lv_aload_n hx hb dX6_excess_10 rfl (lv_at hl 2 rfl) ?_
  refine lv_iload_n hx hb dX6_excess_11 rfl (lv_at hl 0 rfl) ?_
  refine x_cSI (As := [.ref a, .int (nI 1)]) (k_X6_asked l G Y a 1 ρ (hI) (by omega)) cw_X6_53 [0] M hK hZ hw hl.1 rfl (by decide) ⟨by decide, by decide⟩ ⟨Nat.zero_le _, Nat.zero_le _⟩ rfl rfl (Nat.le_of_ble_eq_true rfl) dX6_excess_12 (fun r sg h_30 H locs hw => ?_)
  obtain ⟨rfl, rfl⟩ := h_30
  have hw : xW G A s.heap [[(a, .inl (Y 0, 140, .inl (rowF ρ)))]] H locs := hw
  have q_31 : askedOf ρ 1 ≤ 54 := askedOf_le hI (by omega)
  refine lv_aload_n hx hb dX6_excess_15 rfl (lv_at hl 2 rfl) ?_
  refine lv_iconst (v := (nI 5)) hx hb dX6_excess_16 (by decide) ?_
  refine lv_iload_n hx hb dX6_excess_17 rfl (lv_at hl 0 rfl) ?_
  refine x_iadd M (n := 6) dX6_excess_18 rfl ?_
  refine x_iald M hK hw 0 0 rfl rfl (by decide) (by decide) dX6_excess_19 ?_
  refine x_topN (n := ρ 6) rfl ?_
  have q_32 : 1 ≤ ρ 6 := (hI.sup (q := 6) (k := 1) (by decide) rfl).1
  have q_33 : ρ 6 ≤ 9 := (hI.sup (q := 6) (k := 1) (by decide) rfl).2
  refine x_cle M (tgt := 27) (by omega) (by omega) dX6_excess_20 (by decide) (fun c_34 => ?_) (fun c_34 => ?_)
  · refine lv_iconst (v := (nI 0)) hx hb dX6_excess_27 (by decide) ?_
    refine x_iadd M (n := 1) dX6_excess_28 rfl ?_
    refine lv_istore_n (lv' := [(1, .int (nI 1)), (2, .int (nI 1)), (0, .ref a)]) hx hb dX6_excess_29 rfl hl (by decide) rfl (fun ls hl => ?_)
    refine lv_iinc (v := (nI 2)) (lv' := [(2, .int (nI 2)), (1, .int (nI 1)), (0, .ref a)]) hx hb dX6_excess_30 hl (k := 1) rfl (by decide) (by decide) rfl (fun ls hl => ?_)
    refine lv_goto (tgt := 4) hx hb dX6_excess_33 (by decide) ?_
    refine lv_iload_n hx hb dX6_excess_4 rfl (lv_at hl 0 rfl) ?_
    refine lv_iconst (v := (nI 3)) hx hb dX6_excess_5 (by decide) ?_
    refine x_cge M (tgt := 36) (by decide) (by decide) dX6_excess_6 (by decide) (fun c_35 => absurd c_35 (by decide)) (fun c_35 => ?_)
    refine lv_iload_n hx hb dX6_excess_9 rfl (lv_at hl 1 rfl) ?_
    refine lv_aload_n hx hb dX6_excess_10 rfl (lv_at hl 2 rfl) ?_
    refine lv_iload_n hx hb dX6_excess_11 rfl (lv_at hl 0 rfl) ?_
    refine x_cSI (As := [.ref a, .int (nI 2)]) (k_X6_asked l G Y a 2 ρ (hI) (by omega)) cw_X6_53 [0] M hK hZ hw hl.1 rfl (by decide) ⟨by decide, by decide⟩ ⟨Nat.zero_le _, Nat.zero_le _⟩ rfl rfl (Nat.le_of_ble_eq_true rfl) dX6_excess_12 (fun r sg h_36 H locs hw => ?_)
    obtain ⟨rfl, rfl⟩ := h_36
    have hw : xW G A s.heap [[(a, .inl (Y 0, 140, .inl (rowF ρ)))]] H locs := hw
    have q_37 : askedOf ρ 2 ≤ 54 := askedOf_le hI (by omega)
    refine lv_aload_n hx hb dX6_excess_15 rfl (lv_at hl 2 rfl) ?_
    refine lv_iconst (v := (nI 5)) hx hb dX6_excess_16 (by decide) ?_
    refine lv_iload_n hx hb dX6_excess_17 rfl (lv_at hl 0 rfl) ?_
    refine x_iadd M (n := 7) dX6_excess_18 rfl ?_
    refine x_iald M hK hw 0 0 rfl rfl (by decide) (by decide) dX6_excess_19 ?_
    refine x_topN (n := ρ 7) rfl ?_
    have q_38 : 1 ≤ ρ 7 := (hI.sup (q := 7) (k := 2) (by decide) rfl).1
    have q_39 : ρ 7 ≤ 9 := (hI.sup (q := 7) (k := 2) (by decide) rfl).2
    refine x_cle M (tgt := 27) (by omega) (by omega) dX6_excess_20 (by decide) (fun c_40 => ?_) (fun c_40 => ?_)
    · refine lv_iconst (v := (nI 0)) hx hb dX6_excess_27 (by decide) ?_
      refine x_iadd M (n := 1) dX6_excess_28 rfl ?_
      refine lv_istore_n (lv' := [(1, .int (nI 1)), (2, .int (nI 2)), (0, .ref a)]) hx hb dX6_excess_29 rfl hl (by decide) rfl (fun ls hl => ?_)
      refine lv_iinc (v := (nI 3)) (lv' := [(2, .int (nI 3)), (1, .int (nI 1)), (0, .ref a)]) hx hb dX6_excess_30 hl (k := 1) rfl (by decide) (by decide) rfl (fun ls hl => ?_)
      refine lv_goto (tgt := 4) hx hb dX6_excess_33 (by decide) ?_
      refine lv_iload_n hx hb dX6_excess_4 rfl (lv_at hl 0 rfl) ?_
      refine lv_iconst (v := (nI 3)) hx hb dX6_excess_5 (by decide) ?_
      refine x_cge M (tgt := 36) (by decide) (by decide) dX6_excess_6 (by decide) (fun c_41 => ?_) (fun c_41 => absurd c_41 (by decide))
      refine lv_iload_n hx hb dX6_excess_36 rfl (lv_at hl 1 rfl) ?_
      exact hret _ _ _ (nI 1) _ _ dX6_excess_37 hw rfl rfl ⟨congrArg nI (by simp only [scarce, scar, Nat.reduceAdd]; rw [if_pos (by omega)]; rw [if_neg (by omega)]; rw [if_neg (by omega)]), rfl⟩
    refine lv_iconst (v := (nI 1)) hx hb dX6_excess_23 (by decide) ?_
    refine lv_goto (tgt := 28) hx hb dX6_excess_24 (by decide) ?_
    refine x_iadd M (n := 2) dX6_excess_28 rfl ?_
    refine lv_istore_n (lv' := [(1, .int (nI 2)), (2, .int (nI 2)), (0, .ref a)]) hx hb dX6_excess_29 rfl hl (by decide) rfl (fun ls hl => ?_)
    refine lv_iinc (v := (nI 3)) (lv' := [(2, .int (nI 3)), (1, .int (nI 2)), (0, .ref a)]) hx hb dX6_excess_30 hl (k := 1) rfl (by decide) (by decide) rfl (fun ls hl => ?_)
    refine lv_goto (tgt := 4) hx hb dX6_excess_33 (by decide) ?_
    refine lv_iload_n hx hb dX6_excess_4 rfl (lv_at hl 0 rfl) ?_
    refine lv_iconst (v := (nI 3)) hx hb dX6_excess_5 (by decide) ?_
    refine x_cge M (tgt := 36) (by decide) (by decide) dX6_excess_6 (by decide) (fun c_42 => ?_) (fun c_42 => absurd c_42 (by decide))
    refine lv_iload_n hx hb dX6_excess_36 rfl (lv_at hl 1 rfl) ?_
    exact hret _ _ _ (nI 2) _ _ dX6_excess_37 hw rfl rfl ⟨congrArg nI (by simp only [scarce, scar, Nat.reduceAdd]; rw [if_pos (by omega)]; rw [if_neg (by omega)]; rw [if_pos (by omega)]), rfl⟩
  refine lv_iconst (v := (nI 1)) hx hb dX6_excess_23 (by decide) ?_
  refine lv_goto (tgt := 28) hx hb dX6_excess_24 (by decide) ?_
  refine x_iadd M (n := 2) dX6_excess_28 rfl ?_
  refine lv_istore_n (lv' := [(1, .int (nI 2)), (2, .int (nI 1)), (0, .ref a)]) hx hb dX6_excess_29 rfl hl (by decide) rfl (fun ls hl => ?_)
  refine lv_iinc (v := (nI 2)) (lv' := [(2, .int (nI 2)), (1, .int (nI 2)), (0, .ref a)]) hx hb dX6_excess_30 hl (k := 1) rfl (by decide) (by decide) rfl (fun ls hl => ?_)
  refine lv_goto (tgt := 4) hx hb dX6_excess_33 (by decide) ?_
  refine lv_iload_n hx hb dX6_excess_4 rfl (lv_at hl 0 rfl) ?_
  refine lv_iconst (v := (nI 3)) hx hb dX6_excess_5 (by decide) ?_
  refine x_cge M (tgt := 36) (by decide) (by decide) dX6_excess_6 (by decide) (fun c_43 => absurd c_43 (by decide)) (fun c_43 => ?_)
  refine lv_iload_n hx hb dX6_excess_9 rfl (lv_at hl 1 rfl) ?_
  refine lv_aload_n hx hb dX6_excess_10 rfl (lv_at hl 2 rfl) ?_
  refine lv_iload_n hx hb dX6_excess_11 rfl (lv_at hl 0 rfl) ?_
  refine x_cSI (As := [.ref a, .int (nI 2)]) (k_X6_asked l G Y a 2 ρ (hI) (by omega)) cw_X6_53 [0] M hK hZ hw hl.1 rfl (by decide) ⟨by decide, by decide⟩ ⟨Nat.zero_le _, Nat.zero_le _⟩ rfl rfl (Nat.le_of_ble_eq_true rfl) dX6_excess_12 (fun r sg h_44 H locs hw => ?_)
  obtain ⟨rfl, rfl⟩ := h_44
  have hw : xW G A s.heap [[(a, .inl (Y 0, 140, .inl (rowF ρ)))]] H locs := hw
  have q_45 : askedOf ρ 2 ≤ 54 := askedOf_le hI (by omega)
  refine lv_aload_n hx hb dX6_excess_15 rfl (lv_at hl 2 rfl) ?_
  refine lv_iconst (v := (nI 5)) hx hb dX6_excess_16 (by decide) ?_
  refine lv_iload_n hx hb dX6_excess_17 rfl (lv_at hl 0 rfl) ?_
  refine x_iadd M (n := 7) dX6_excess_18 rfl ?_
  refine x_iald M hK hw 0 0 rfl rfl (by decide) (by decide) dX6_excess_19 ?_
  refine x_topN (n := ρ 7) rfl ?_
  have q_46 : 1 ≤ ρ 7 := (hI.sup (q := 7) (k := 2) (by decide) rfl).1
  have q_47 : ρ 7 ≤ 9 := (hI.sup (q := 7) (k := 2) (by decide) rfl).2
  refine x_cle M (tgt := 27) (by omega) (by omega) dX6_excess_20 (by decide) (fun c_48 => ?_) (fun c_48 => ?_)
  · refine lv_iconst (v := (nI 0)) hx hb dX6_excess_27 (by decide) ?_
    refine x_iadd M (n := 2) dX6_excess_28 rfl ?_
    refine lv_istore_n (lv' := [(1, .int (nI 2)), (2, .int (nI 2)), (0, .ref a)]) hx hb dX6_excess_29 rfl hl (by decide) rfl (fun ls hl => ?_)
    refine lv_iinc (v := (nI 3)) (lv' := [(2, .int (nI 3)), (1, .int (nI 2)), (0, .ref a)]) hx hb dX6_excess_30 hl (k := 1) rfl (by decide) (by decide) rfl (fun ls hl => ?_)
    refine lv_goto (tgt := 4) hx hb dX6_excess_33 (by decide) ?_
    refine lv_iload_n hx hb dX6_excess_4 rfl (lv_at hl 0 rfl) ?_
    refine lv_iconst (v := (nI 3)) hx hb dX6_excess_5 (by decide) ?_
    refine x_cge M (tgt := 36) (by decide) (by decide) dX6_excess_6 (by decide) (fun c_49 => ?_) (fun c_49 => absurd c_49 (by decide))
    refine lv_iload_n hx hb dX6_excess_36 rfl (lv_at hl 1 rfl) ?_
    exact hret _ _ _ (nI 2) _ _ dX6_excess_37 hw rfl rfl ⟨congrArg nI (by simp only [scarce, scar, Nat.reduceAdd]; rw [if_pos (by omega)]; rw [if_pos (by omega)]; rw [if_neg (by omega)]), rfl⟩
  refine lv_iconst (v := (nI 1)) hx hb dX6_excess_23 (by decide) ?_
  refine lv_goto (tgt := 28) hx hb dX6_excess_24 (by decide) ?_
  refine x_iadd M (n := 3) dX6_excess_28 rfl ?_
  refine lv_istore_n (lv' := [(1, .int (nI 3)), (2, .int (nI 2)), (0, .ref a)]) hx hb dX6_excess_29 rfl hl (by decide) rfl (fun ls hl => ?_)
  refine lv_iinc (v := (nI 3)) (lv' := [(2, .int (nI 3)), (1, .int (nI 3)), (0, .ref a)]) hx hb dX6_excess_30 hl (k := 1) rfl (by decide) (by decide) rfl (fun ls hl => ?_)
  refine lv_goto (tgt := 4) hx hb dX6_excess_33 (by decide) ?_
  refine lv_iload_n hx hb dX6_excess_4 rfl (lv_at hl 0 rfl) ?_
  refine lv_iconst (v := (nI 3)) hx hb dX6_excess_5 (by decide) ?_
  refine x_cge M (tgt := 36) (by decide) (by decide) dX6_excess_6 (by decide) (fun c_50 => ?_) (fun c_50 => absurd c_50 (by decide))
  refine lv_iload_n hx hb dX6_excess_36 rfl (lv_at hl 1 rfl) ?_
  exact hret _ _ _ (nI 3) _ _ dX6_excess_37 hw rfl rfl ⟨congrArg nI (by simp only [scarce, scar, Nat.reduceAdd]; rw [if_pos (by omega)]; rw [if_pos (by omega)]; rw [if_pos (by omega)]), rfl⟩
set_option maxHeartbeats 4000000 in
set_option maxRecDepth 20000 in
theorem k_X6_profit (l : Launch) (G : va_G) (Y : Nat → Nat) (a j : Nat) (ρ : Nat → Nat) (hI : Inv ρ) (hj : j < ρ 4) : CtI l yX6_profit cX6_profit 4 .int 1 20 [.ref a, .int (nI j)] [[(a, .inl (Y 0, 140, .inl (rowF ρ)))]] (fun r sg => r = prof ρ j ∧ sg = [[(a, .inl (Y 0, 140, .inl (rowF ρ)))]]) G Y := by
  refine x_ofI (by decide) (Nat.le_of_ble_eq_true rfl) (fun p e s m args below meth c A ls Q M hK hZ hw hl hret => ?_)
  obtain ⟨hx, hb, -⟩ := id M
  have hl : lv_has ls 4 [(0, .ref a), (1, .int (nI j))] := hl
  have := hI.n6
  have := hI.over
  have := hI.keep
  have := hI.stepp
  refine lv_iconst (v := (nI 0)) hx hb dX6_profit_0 (by decide) ?_
  refine lv_istore_n (lv' := [(2, .int (nI 0)), (0, .ref a), (1, .int (nI j))]) hx hb dX6_profit_1 rfl hl (by decide) rfl (fun ls hl => ?_)
  refine lv_iconst (v := (nI 0)) hx hb dX6_profit_2 (by decide) ?_
  refine lv_istore_n (lv' := [(3, .int (nI 0)), (2, .int (nI 0)), (0, .ref a), (1, .int (nI j))]) hx hb dX6_profit_3 rfl hl (by decide) rfl (fun ls hl => ?_)
  refine lv_iload_n hx hb dX6_profit_4 rfl (lv_at hl 0 rfl) ?_
  refine lv_iconst (v := (nI 3)) hx hb dX6_profit_5 (by decide) ?_
  refine x_cge M (tgt := 46) (by decide) (by decide) dX6_profit_6 (by decide) (fun c_1 => absurd c_1 (by decide)) (fun c_1 => ?_)
  refine lv_iload_n hx hb dX6_profit_9 rfl (lv_at hl 1 rfl) ?_
  refine lv_aload_n hx hb dX6_profit_10 rfl (lv_at hl 2 rfl) ?_
  refine lv_iload_n hx hb dX6_profit_11 rfl (lv_at hl 3 rfl) ?_
  refine x_cSI (As := [.int (nI j)]) (k_X6_at l G Y j) cw_X6_49 [] M hK hZ hw hl.1 rfl (by decide) ⟨by decide, by decide⟩ ⟨Nat.zero_le _, Nat.zero_le _⟩ rfl rfl (Nat.le_of_ble_eq_true rfl) dX6_profit_12 (fun r sg h_2 H locs hw => ?_)
  obtain ⟨rfl, rfl⟩ := h_2
  have hw : xW G A s.heap [[(a, .inl (Y 0, 140, .inl (rowF ρ)))]] H locs := hw
  refine lv_iconst (v := (nI 5)) hx hb dX6_profit_15 (by decide) ?_
  refine x_iadd M (n := 19 + 21 * j) dX6_profit_16 (by omega) ?_
  refine lv_iload_n hx hb dX6_profit_17 rfl (lv_at hl 0 rfl) ?_
  refine x_iadd M (n := 19 + 21 * j) dX6_profit_18 (by omega) ?_
  refine x_iald M hK hw 0 0 rfl rfl (by omega) (by decide) dX6_profit_19 ?_
  refine x_topN (n := ρ (19 + 21 * j)) rfl ?_
  have q_3 : ρ (19 + 21 * j) ≤ 9 := hI.dem (j := j) (by omega) (k := 0) (by decide) (by omega)
  refine lv_aload_n hx hb dX6_profit_20 rfl (lv_at hl 2 rfl) ?_
  refine lv_iload_n hx hb dX6_profit_21 rfl (lv_at hl 3 rfl) ?_
  refine x_cSI (As := [.int (nI j)]) (k_X6_at l G Y j) cw_X6_49 [] M hK hZ hw hl.1 rfl (by decide) ⟨by decide, by decide⟩ ⟨Nat.zero_le _, Nat.zero_le _⟩ rfl rfl (Nat.le_of_ble_eq_true rfl) dX6_profit_22 (fun r sg h_4 H locs hw => ?_)
  obtain ⟨rfl, rfl⟩ := h_4
  have hw : xW G A s.heap [[(a, .inl (Y 0, 140, .inl (rowF ρ)))]] H locs := hw
  refine lv_iconst (v := (nI 2)) hx hb dX6_profit_25 (by decide) ?_
  refine x_iadd M (n := 16 + 21 * j) dX6_profit_26 (by omega) ?_
  refine lv_iload_n hx hb dX6_profit_27 rfl (lv_at hl 0 rfl) ?_
  refine x_iadd M (n := 16 + 21 * j) dX6_profit_28 (by omega) ?_
  refine x_iald M hK hw 0 0 rfl rfl (by omega) (by decide) dX6_profit_29 ?_
  refine x_topN (n := ρ (16 + 21 * j)) rfl ?_
  have q_5 : ρ (16 + 21 * j) ≤ 99999 := hI.val (j := j) (by omega) (k := 0) (by decide) (by omega)
  refine lv_aload_n hx hb dX6_profit_30 rfl (lv_at hl 2 rfl) ?_
  refine lv_bipush (v := (nI 11)) hx hb dX6_profit_31 (by decide) ?_
  refine lv_iload_n hx hb dX6_profit_33 rfl (lv_at hl 0 rfl) ?_
  refine x_iadd M (n := 11) dX6_profit_34 rfl ?_
  refine x_iald M hK hw 0 0 rfl rfl (by decide) (by decide) dX6_profit_35 ?_
  refine x_topN (n := ρ 11) rfl ?_
  have q_6 : 1 ≤ ρ 11 := (hI.pri (q := 11) (k := 0) (by decide) rfl).1
  have q_7 : ρ 11 ≤ 99999 := (hI.pri (q := 11) (k := 0) (by decide) rfl).2
  refine lv_isub hx hb dX6_profit_36 ?_
  refine lv_imul hx hb dX6_profit_37 ?_
  refine lv_iadd hx hb dX6_profit_38 ?_
  refine lv_istore_n (lv' := [(2, .int ((nI 0) + ((nI (ρ (19 + 21 * j))) * ((nI (ρ (16 + 21 * j))) - (nI (ρ 11)))))), (3, .int (nI 0)), (0, .ref a), (1, .int (nI j))]) hx hb dX6_profit_39 rfl hl (by decide) rfl (fun ls hl => ?_)
  refine lv_iinc (v := (nI 1)) (lv' := [(3, .int (nI 1)), (2, .int ((nI 0) + ((nI (ρ (19 + 21 * j))) * ((nI (ρ (16 + 21 * j))) - (nI (ρ 11)))))), (0, .ref a), (1, .int (nI j))]) hx hb dX6_profit_40 hl (k := 1) rfl (by decide) (by decide) rfl (fun ls hl => ?_)
  refine lv_goto (tgt := 4) hx hb dX6_profit_43 (by decide) ?_
  refine lv_iload_n hx hb dX6_profit_4 rfl (lv_at hl 0 rfl) ?_
  refine lv_iconst (v := (nI 3)) hx hb dX6_profit_5 (by decide) ?_
  refine x_cge M (tgt := 46) (by decide) (by decide) dX6_profit_6 (by decide) (fun c_8 => absurd c_8 (by decide)) (fun c_8 => ?_)
  refine lv_iload_n hx hb dX6_profit_9 rfl (lv_at hl 1 rfl) ?_
  refine lv_aload_n hx hb dX6_profit_10 rfl (lv_at hl 2 rfl) ?_
  refine lv_iload_n hx hb dX6_profit_11 rfl (lv_at hl 3 rfl) ?_
  refine x_cSI (As := [.int (nI j)]) (k_X6_at l G Y j) cw_X6_49 [] M hK hZ hw hl.1 rfl (by decide) ⟨by decide, by decide⟩ ⟨Nat.zero_le _, Nat.zero_le _⟩ rfl rfl (Nat.le_of_ble_eq_true rfl) dX6_profit_12 (fun r sg h_9 H locs hw => ?_)
  obtain ⟨rfl, rfl⟩ := h_9
  have hw : xW G A s.heap [[(a, .inl (Y 0, 140, .inl (rowF ρ)))]] H locs := hw
  refine lv_iconst (v := (nI 5)) hx hb dX6_profit_15 (by decide) ?_
  refine x_iadd M (n := 19 + 21 * j) dX6_profit_16 (by omega) ?_
  refine lv_iload_n hx hb dX6_profit_17 rfl (lv_at hl 0 rfl) ?_
  refine x_iadd M (n := 20 + 21 * j) dX6_profit_18 (by omega) ?_
  refine x_iald M hK hw 0 0 rfl rfl (by omega) (by decide) dX6_profit_19 ?_
  refine x_topN (n := ρ (20 + 21 * j)) rfl ?_
  have q_10 : ρ (20 + 21 * j) ≤ 9 := hI.dem (j := j) (by omega) (k := 1) (by decide) (by omega)
  refine lv_aload_n hx hb dX6_profit_20 rfl (lv_at hl 2 rfl) ?_
  refine lv_iload_n hx hb dX6_profit_21 rfl (lv_at hl 3 rfl) ?_
  refine x_cSI (As := [.int (nI j)]) (k_X6_at l G Y j) cw_X6_49 [] M hK hZ hw hl.1 rfl (by decide) ⟨by decide, by decide⟩ ⟨Nat.zero_le _, Nat.zero_le _⟩ rfl rfl (Nat.le_of_ble_eq_true rfl) dX6_profit_22 (fun r sg h_11 H locs hw => ?_)
  obtain ⟨rfl, rfl⟩ := h_11
  have hw : xW G A s.heap [[(a, .inl (Y 0, 140, .inl (rowF ρ)))]] H locs := hw
  refine lv_iconst (v := (nI 2)) hx hb dX6_profit_25 (by decide) ?_
  refine x_iadd M (n := 16 + 21 * j) dX6_profit_26 (by omega) ?_
  refine lv_iload_n hx hb dX6_profit_27 rfl (lv_at hl 0 rfl) ?_
  refine x_iadd M (n := 17 + 21 * j) dX6_profit_28 (by omega) ?_
  refine x_iald M hK hw 0 0 rfl rfl (by omega) (by decide) dX6_profit_29 ?_
  refine x_topN (n := ρ (17 + 21 * j)) rfl ?_
  have q_12 : ρ (17 + 21 * j) ≤ 99999 := hI.val (j := j) (by omega) (k := 1) (by decide) (by omega)
  refine lv_aload_n hx hb dX6_profit_30 rfl (lv_at hl 2 rfl) ?_
  refine lv_bipush (v := (nI 11)) hx hb dX6_profit_31 (by decide) ?_
  refine lv_iload_n hx hb dX6_profit_33 rfl (lv_at hl 0 rfl) ?_
  refine x_iadd M (n := 12) dX6_profit_34 rfl ?_
  refine x_iald M hK hw 0 0 rfl rfl (by decide) (by decide) dX6_profit_35 ?_
  refine x_topN (n := ρ 12) rfl ?_
  have q_13 : 1 ≤ ρ 12 := (hI.pri (q := 12) (k := 1) (by decide) rfl).1
  have q_14 : ρ 12 ≤ 99999 := (hI.pri (q := 12) (k := 1) (by decide) rfl).2
  refine lv_isub hx hb dX6_profit_36 ?_
  refine lv_imul hx hb dX6_profit_37 ?_
  refine lv_iadd hx hb dX6_profit_38 ?_
  refine lv_istore_n (lv' := [(2, .int (((nI 0) + ((nI (ρ (19 + 21 * j))) * ((nI (ρ (16 + 21 * j))) - (nI (ρ 11))))) + ((nI (ρ (20 + 21 * j))) * ((nI (ρ (17 + 21 * j))) - (nI (ρ 12)))))), (3, .int (nI 1)), (0, .ref a), (1, .int (nI j))]) hx hb dX6_profit_39 rfl hl (by decide) rfl (fun ls hl => ?_)
  refine lv_iinc (v := (nI 2)) (lv' := [(3, .int (nI 2)), (2, .int (((nI 0) + ((nI (ρ (19 + 21 * j))) * ((nI (ρ (16 + 21 * j))) - (nI (ρ 11))))) + ((nI (ρ (20 + 21 * j))) * ((nI (ρ (17 + 21 * j))) - (nI (ρ 12)))))), (0, .ref a), (1, .int (nI j))]) hx hb dX6_profit_40 hl (k := 1) rfl (by decide) (by decide) rfl (fun ls hl => ?_)
  refine lv_goto (tgt := 4) hx hb dX6_profit_43 (by decide) ?_
  refine lv_iload_n hx hb dX6_profit_4 rfl (lv_at hl 0 rfl) ?_
  refine lv_iconst (v := (nI 3)) hx hb dX6_profit_5 (by decide) ?_
  refine x_cge M (tgt := 46) (by decide) (by decide) dX6_profit_6 (by decide) (fun c_15 => absurd c_15 (by decide)) (fun c_15 => ?_)
  refine lv_iload_n hx hb dX6_profit_9 rfl (lv_at hl 1 rfl) ?_
  refine lv_aload_n hx hb dX6_profit_10 rfl (lv_at hl 2 rfl) ?_
  refine lv_iload_n hx hb dX6_profit_11 rfl (lv_at hl 3 rfl) ?_
  refine x_cSI (As := [.int (nI j)]) (k_X6_at l G Y j) cw_X6_49 [] M hK hZ hw hl.1 rfl (by decide) ⟨by decide, by decide⟩ ⟨Nat.zero_le _, Nat.zero_le _⟩ rfl rfl (Nat.le_of_ble_eq_true rfl) dX6_profit_12 (fun r sg h_16 H locs hw => ?_)
  obtain ⟨rfl, rfl⟩ := h_16
  have hw : xW G A s.heap [[(a, .inl (Y 0, 140, .inl (rowF ρ)))]] H locs := hw
  refine lv_iconst (v := (nI 5)) hx hb dX6_profit_15 (by decide) ?_
  refine x_iadd M (n := 19 + 21 * j) dX6_profit_16 (by omega) ?_
  refine lv_iload_n hx hb dX6_profit_17 rfl (lv_at hl 0 rfl) ?_
  refine x_iadd M (n := 21 + 21 * j) dX6_profit_18 (by omega) ?_
  refine x_iald M hK hw 0 0 rfl rfl (by omega) (by decide) dX6_profit_19 ?_
  refine x_topN (n := ρ (21 + 21 * j)) rfl ?_
  have q_17 : ρ (21 + 21 * j) ≤ 9 := hI.dem (j := j) (by omega) (k := 2) (by decide) (by omega)
  refine lv_aload_n hx hb dX6_profit_20 rfl (lv_at hl 2 rfl) ?_
  refine lv_iload_n hx hb dX6_profit_21 rfl (lv_at hl 3 rfl) ?_
  refine x_cSI (As := [.int (nI j)]) (k_X6_at l G Y j) cw_X6_49 [] M hK hZ hw hl.1 rfl (by decide) ⟨by decide, by decide⟩ ⟨Nat.zero_le _, Nat.zero_le _⟩ rfl rfl (Nat.le_of_ble_eq_true rfl) dX6_profit_22 (fun r sg h_18 H locs hw => ?_)
  obtain ⟨rfl, rfl⟩ := h_18
  have hw : xW G A s.heap [[(a, .inl (Y 0, 140, .inl (rowF ρ)))]] H locs := hw
  refine lv_iconst (v := (nI 2)) hx hb dX6_profit_25 (by decide) ?_
  refine x_iadd M (n := 16 + 21 * j) dX6_profit_26 (by omega) ?_
  refine lv_iload_n hx hb dX6_profit_27 rfl (lv_at hl 0 rfl) ?_
  refine x_iadd M (n := 18 + 21 * j) dX6_profit_28 (by omega) ?_
  refine x_iald M hK hw 0 0 rfl rfl (by omega) (by decide) dX6_profit_29 ?_
  refine x_topN (n := ρ (18 + 21 * j)) rfl ?_
  have q_19 : ρ (18 + 21 * j) ≤ 99999 := hI.val (j := j) (by omega) (k := 2) (by decide) (by omega)
  refine lv_aload_n hx hb dX6_profit_30 rfl (lv_at hl 2 rfl) ?_
  refine lv_bipush (v := (nI 11)) hx hb dX6_profit_31 (by decide) ?_
  refine lv_iload_n hx hb dX6_profit_33 rfl (lv_at hl 0 rfl) ?_
  refine x_iadd M (n := 13) dX6_profit_34 rfl ?_
  refine x_iald M hK hw 0 0 rfl rfl (by decide) (by decide) dX6_profit_35 ?_
  refine x_topN (n := ρ 13) rfl ?_
  have q_20 : 1 ≤ ρ 13 := (hI.pri (q := 13) (k := 2) (by decide) rfl).1
  have q_21 : ρ 13 ≤ 99999 := (hI.pri (q := 13) (k := 2) (by decide) rfl).2
  refine lv_isub hx hb dX6_profit_36 ?_
  refine lv_imul hx hb dX6_profit_37 ?_
  refine lv_iadd hx hb dX6_profit_38 ?_
  refine lv_istore_n (lv' := [(2, .int ((((nI 0) + ((nI (ρ (19 + 21 * j))) * ((nI (ρ (16 + 21 * j))) - (nI (ρ 11))))) + ((nI (ρ (20 + 21 * j))) * ((nI (ρ (17 + 21 * j))) - (nI (ρ 12))))) + ((nI (ρ (21 + 21 * j))) * ((nI (ρ (18 + 21 * j))) - (nI (ρ 13)))))), (3, .int (nI 2)), (0, .ref a), (1, .int (nI j))]) hx hb dX6_profit_39 rfl hl (by decide) rfl (fun ls hl => ?_)
  refine lv_iinc (v := (nI 3)) (lv' := [(3, .int (nI 3)), (2, .int ((((nI 0) + ((nI (ρ (19 + 21 * j))) * ((nI (ρ (16 + 21 * j))) - (nI (ρ 11))))) + ((nI (ρ (20 + 21 * j))) * ((nI (ρ (17 + 21 * j))) - (nI (ρ 12))))) + ((nI (ρ (21 + 21 * j))) * ((nI (ρ (18 + 21 * j))) - (nI (ρ 13)))))), (0, .ref a), (1, .int (nI j))]) hx hb dX6_profit_40 hl (k := 1) rfl (by decide) (by decide) rfl (fun ls hl => ?_)
  refine lv_goto (tgt := 4) hx hb dX6_profit_43 (by decide) ?_
  refine lv_iload_n hx hb dX6_profit_4 rfl (lv_at hl 0 rfl) ?_
  refine lv_iconst (v := (nI 3)) hx hb dX6_profit_5 (by decide) ?_
  refine x_cge M (tgt := 46) (by decide) (by decide) dX6_profit_6 (by decide) (fun c_22 => ?_) (fun c_22 => absurd c_22 (by decide))
  refine lv_iload_n hx hb dX6_profit_46 rfl (lv_at hl 1 rfl) ?_
  exact hret _ _ _ ((((nI 0) + ((nI (ρ (19 + 21 * j))) * ((nI (ρ (16 + 21 * j))) - (nI (ρ 11))))) + ((nI (ρ (20 + 21 * j))) * ((nI (ρ (17 + 21 * j))) - (nI (ρ 12))))) + ((nI (ρ (21 + 21 * j))) * ((nI (ρ (18 + 21 * j))) - (nI (ρ 13))))) _ _ dX6_profit_47 hw rfl rfl ⟨by simp only [prof, mgn]; rw [show 17 + 21 * j = 16 + 21 * j + 1 by omega, show 18 + 21 * j = 16 + 21 * j + 2 by omega]; rfl, rfl⟩
set_option maxHeartbeats 4000000 in
set_option maxRecDepth 20000 in
theorem k_X6_less (l : Launch) (G : va_G) (Y : Nat → Nat) (a b : Nat) (ha : a < 2 ^ 31) (hb2 : b < 2 ^ 31) : CtI l yX6_less cX6_less 2 .int 0 0 [.int (nI a), .int (nI b)] [] (fun r sg => r = nI (min a b) ∧ sg = []) G Y := by
  refine x_ofI (by decide) (Nat.le_of_ble_eq_true rfl) (fun p e s m args below meth c A ls Q M hK hZ hw hl hret => ?_)
  obtain ⟨hx, hb, -⟩ := id M
  have hl : lv_has ls 2 [(0, .int (nI a)), (1, .int (nI b))] := hl
  refine lv_iload_n hx hb dX6_less_0 rfl (lv_at hl 0 rfl) ?_
  refine lv_iload_n hx hb dX6_less_1 rfl (lv_at hl 1 rfl) ?_
  refine x_cge M (tgt := 9) (by omega) (by omega) dX6_less_2 (by decide) (fun c_1 => ?_) (fun c_1 => ?_)
  · refine lv_iload_n hx hb dX6_less_9 rfl (lv_at hl 1 rfl) ?_
    exact hret _ _ _ (nI b) _ _ dX6_less_10 hw rfl rfl ⟨congrArg nI (by omega), rfl⟩
  refine lv_iload_n hx hb dX6_less_5 rfl (lv_at hl 0 rfl) ?_
  refine lv_goto (tgt := 10) hx hb dX6_less_6 (by decide) ?_
  exact hret _ _ _ (nI a) _ _ dX6_less_10 hw rfl rfl ⟨congrArg nI (by omega), rfl⟩
set_option maxHeartbeats 4000000 in
set_option maxRecDepth 20000 in
theorem k_X6_digit (l : Launch) (G : va_G) (Y : Nat → Nat) (a k : Nat) (ha : a < 2 ^ 31) (hk : k < 3) : CtI l yX6_digit cX6_digit 2 .int 0 0 [.int (nI a), .int (nI k)] [] (fun r sg => r = nI (dig a k) ∧ sg = []) G Y := by
  refine x_ofI (by decide) (Nat.le_of_ble_eq_true rfl) (fun p e s m args below meth c A ls Q M hK hZ hw hl hret => ?_)
  obtain ⟨hx, hb, -⟩ := id M
  have hl : lv_has ls 2 [(0, .int (nI a)), (1, .int (nI k))] := hl
  refine lv_iload_n hx hb dX6_digit_0 rfl (lv_at hl 1 rfl) ?_
  refine x_zne M (tgt := 11) (by omega) dX6_digit_1 (by decide) (fun c_1 => ?_) (fun c_1 => ?_)
  · refine lv_iload_n hx hb dX6_digit_11 rfl (lv_at hl 1 rfl) ?_
    refine lv_iconst (v := (nI 1)) hx hb dX6_digit_12 (by decide) ?_
    refine x_cne M (tgt := 26) (by omega) (by decide) dX6_digit_13 (by decide) (fun c_2 => ?_) (fun c_2 => ?_)
    · refine lv_iload_n hx hb dX6_digit_26 rfl (lv_at hl 0 rfl) ?_
      refine lv_bipush (v := (nI 10)) hx hb dX6_digit_27 (by decide) ?_
      refine x_irem M (n := a % 10) dX6_digit_29 (by omega) (by omega) (by decide) rfl ?_
      exact hret _ _ _ (nI (a % 10)) _ _ dX6_digit_30 hw rfl rfl ⟨congrArg nI (by simp only [dig]; rw [if_neg (by omega)]; rw [if_neg (by omega)]), rfl⟩
    refine lv_iload_n hx hb dX6_digit_16 rfl (lv_at hl 0 rfl) ?_
    refine lv_bipush (v := (nI 10)) hx hb dX6_digit_17 (by decide) ?_
    refine x_idiv M (n := a / 10) dX6_digit_19 (by omega) (by omega) (by decide) rfl ?_
    refine lv_bipush (v := (nI 10)) hx hb dX6_digit_20 (by decide) ?_
    refine x_irem M (n := (a / 10) % 10) dX6_digit_22 (by omega) (by omega) (by decide) rfl ?_
    refine lv_goto (tgt := 30) hx hb dX6_digit_23 (by decide) ?_
    exact hret _ _ _ (nI ((a / 10) % 10)) _ _ dX6_digit_30 hw rfl rfl ⟨congrArg nI (by simp only [dig]; rw [if_neg (by omega)]; rw [if_pos (by omega)]), rfl⟩
  refine lv_iload_n hx hb dX6_digit_4 rfl (lv_at hl 0 rfl) ?_
  refine lv_bipush (v := (nI 100)) hx hb dX6_digit_5 (by decide) ?_
  refine x_idiv M (n := a / 100) dX6_digit_7 (by omega) (by omega) (by decide) rfl ?_
  refine lv_goto (tgt := 30) hx hb dX6_digit_8 (by decide) ?_
  exact hret _ _ _ (nI (a / 100)) _ _ dX6_digit_30 hw rfl rfl ⟨congrArg nI (by simp only [dig]; rw [if_pos (by omega)]), rfl⟩
set_option maxHeartbeats 4000000 in
set_option maxRecDepth 20000 in
theorem k_X6_packOf (l : Launch) (G : va_G) (Y : Nat → Nat) (a j i k : Nat) (ρ : Nat → Nat) (hI : Inv ρ) (hj : j < ρ 4) (hi : i ≤ ρ (22 + 21 * j)) (hk : k < 3) : CtI l yX6_packOf cX6_packOf 6 .int 1 20 [.ref a, .int (nI j), .int (nI i), .int (nI k)] [[(a, .inl (Y 0, 140, .inl (rowF ρ)))]] (fun r sg => r = nI (lotOf ρ j i k) ∧ sg = [[(a, .inl (Y 0, 140, .inl (rowF ρ)))]]) G Y := by
  refine x_ofI (by decide) (Nat.le_of_ble_eq_true rfl) (fun p e s m args below meth c A ls Q M hK hZ hw hl hret => ?_)
  obtain ⟨hx, hb, -⟩ := id M
  have hl : lv_has ls 6 [(0, .ref a), (1, .int (nI j)), (2, .int (nI i)), (3, .int (nI k))] := hl
  have := hI.pck (j := j) hj rfl
  have := hI.n6
  have := hI.over
  have := hI.keep
  have := hI.stepp
  refine lv_iload_n hx hb dX6_packOf_0 rfl (lv_at hl 2 rfl) ?_
  refine x_zle M (tgt := 22) (by omega) dX6_packOf_1 (by decide) (fun c_1 => ?_) (fun c_1 => ?_)
  · refine lv_iload_n hx hb dX6_packOf_22 rfl (lv_at hl 3 rfl) ?_
    refine lv_iconst (v := (nI 3)) hx hb dX6_packOf_23 (by decide) ?_
    refine x_cge M (tgt := 38) (by omega) (by decide) dX6_packOf_24 (by decide) (fun c_2 => absurd c_2 (by omega)) (fun c_2 => ?_)
    refine lv_aload_n hx hb dX6_packOf_27 rfl (lv_at hl 0 rfl) ?_
    refine lv_iload_n hx hb dX6_packOf_28 rfl (lv_at hl 1 rfl) ?_
    refine x_cSI (As := [.int (nI j)]) (k_X6_at l G Y j) cw_X6_49 [] M hK hZ hw hl.1 rfl (by decide) ⟨by decide, by decide⟩ ⟨Nat.zero_le _, Nat.zero_le _⟩ rfl rfl (Nat.le_of_ble_eq_true rfl) dX6_packOf_29 (fun r sg h_3 H locs hw => ?_)
    obtain ⟨rfl, rfl⟩ := h_3
    have hw : xW G A s.heap [[(a, .inl (Y 0, 140, .inl (rowF ρ)))]] H locs := hw
    refine lv_iconst (v := (nI 5)) hx hb dX6_packOf_32 (by decide) ?_
    refine x_iadd M (n := 19 + 21 * j) dX6_packOf_33 (by omega) ?_
    refine lv_iload_n hx hb dX6_packOf_34 rfl (lv_at hl 3 rfl) ?_
    refine x_iadd M (n := 19 + 21 * j + k) dX6_packOf_35 rfl ?_
    refine x_iald M hK hw 0 0 rfl rfl (by omega) (by decide) dX6_packOf_36 ?_
    refine x_topN (n := ρ (19 + 21 * j + k)) rfl ?_
    have q_4 : ρ (19 + 21 * j + k) ≤ 9 := hI.dem (j := j) (by omega) (k := k) (by omega) (by omega)
    exact hret _ _ _ (nI (ρ (19 + 21 * j + k))) _ _ dX6_packOf_37 hw rfl rfl ⟨congrArg nI (by simp only [lotOf]; rw [if_pos (by omega)]), rfl⟩
  refine lv_aload_n hx hb dX6_packOf_4 rfl (lv_at hl 0 rfl) ?_
  refine lv_iload_n hx hb dX6_packOf_5 rfl (lv_at hl 1 rfl) ?_
  refine x_cSI (As := [.int (nI j)]) (k_X6_at l G Y j) cw_X6_49 [] M hK hZ hw hl.1 rfl (by decide) ⟨by decide, by decide⟩ ⟨Nat.zero_le _, Nat.zero_le _⟩ rfl rfl (Nat.le_of_ble_eq_true rfl) dX6_packOf_6 (fun r sg h_5 H locs hw => ?_)
  obtain ⟨rfl, rfl⟩ := h_5
  have hw : xW G A s.heap [[(a, .inl (Y 0, 140, .inl (rowF ρ)))]] H locs := hw
  refine lv_bipush (v := (nI 9)) hx hb dX6_packOf_9 (by decide) ?_
  refine x_iadd M (n := 23 + 21 * j) dX6_packOf_11 (by omega) ?_
  refine lv_iconst (v := (nI 4)) hx hb dX6_packOf_12 (by decide) ?_
  refine lv_iload_n hx hb dX6_packOf_13 rfl (lv_at hl 2 rfl) ?_
  refine lv_iconst (v := (nI 1)) hx hb dX6_packOf_14 (by decide) ?_
  refine x_isub M (n := (i - 1)) dX6_packOf_15 (by omega) ?_
  refine x_imul M (n := 4 * (i - 1)) dX6_packOf_16 (by omega) ?_
  refine x_iadd M (n := 23 + 21 * j + 4 * (i - 1)) dX6_packOf_17 rfl ?_
  refine lv_iload_n hx hb dX6_packOf_18 rfl (lv_at hl 3 rfl) ?_
  refine x_iadd M (n := 23 + 21 * j + 4 * (i - 1) + k) dX6_packOf_19 rfl ?_
  refine x_iald M hK hw 0 0 rfl rfl (by omega) (by decide) dX6_packOf_20 ?_
  refine x_topN (n := ρ (23 + 21 * j + 4 * (i - 1) + k)) rfl ?_
  have q_6 : ρ (23 + 21 * j + 4 * (i - 1) + k) ≤ 9 := hI.lot (j := j) (i := (i - 1)) (by omega) (by omega) (k := k) (by omega) (by omega)
  exact hret _ _ _ (nI (ρ (23 + 21 * j + 4 * (i - 1) + k))) _ _ dX6_packOf_21 hw rfl rfl ⟨congrArg nI (by simp only [lotOf]; rw [if_neg (by omega)]), rfl⟩
set_option maxHeartbeats 4000000 in
set_option maxRecDepth 20000 in
theorem k_X6_packOf3 (l : Launch) (G : va_G) (Y : Nat → Nat) (a j i : Nat) (ρ : Nat → Nat) (hI : Inv ρ) (hj : j < ρ 4) (hi : i ≤ ρ (22 + 21 * j)) : CtI l yX6_packOf cX6_packOf 6 .int 1 20 [.ref a, .int (nI j), .int (nI i), .int (nI 3)] [[(a, .inl (Y 0, 140, .inl (rowF ρ)))]] (fun r sg => r = nI (worOf ρ j i) ∧ sg = [[(a, .inl (Y 0, 140, .inl (rowF ρ)))]]) G Y := by
  refine x_ofI (by decide) (Nat.le_of_ble_eq_true rfl) (fun p e s m args below meth c A ls Q M hK hZ hw hl hret => ?_)
  obtain ⟨hx, hb, -⟩ := id M
  have hl : lv_has ls 6 [(0, .ref a), (1, .int (nI j)), (2, .int (nI i)), (3, .int (nI 3))] := hl
  have := hI.pck (j := j) hj rfl
  have := hI.n6
  have := hI.over
  have := hI.keep
  have := hI.stepp
  refine lv_iload_n hx hb dX6_packOf_0 rfl (lv_at hl 2 rfl) ?_
  refine x_zle M (tgt := 22) (by omega) dX6_packOf_1 (by decide) (fun c_1 => ?_) (fun c_1 => ?_)
  · refine lv_iload_n hx hb dX6_packOf_22 rfl (lv_at hl 3 rfl) ?_
    refine lv_iconst (v := (nI 3)) hx hb dX6_packOf_23 (by decide) ?_
    refine x_cge M (tgt := 38) (by decide) (by decide) dX6_packOf_24 (by decide) (fun c_2 => ?_) (fun c_2 => absurd c_2 (by decide))
    refine lv_iconst (v := (nI 0)) hx hb dX6_packOf_38 (by decide) ?_
    refine lv_istore (lv' := [(4, .int (nI 0)), (0, .ref a), (1, .int (nI j)), (2, .int (nI i)), (3, .int (nI 3))]) hx hb dX6_packOf_39 hl (by decide) rfl (fun ls hl => ?_)
    refine lv_iconst (v := (nI 0)) hx hb dX6_packOf_41 (by decide) ?_
    refine lv_istore (lv' := [(5, .int (nI 0)), (4, .int (nI 0)), (0, .ref a), (1, .int (nI j)), (2, .int (nI i)), (3, .int (nI 3))]) hx hb dX6_packOf_42 hl (by decide) rfl (fun ls hl => ?_)
    refine lv_iload hx hb dX6_packOf_44 (lv_at hl 0 rfl) ?_
    refine lv_iconst (v := (nI 3)) hx hb dX6_packOf_46 (by decide) ?_
    refine x_cge M (tgt := 80) (by decide) (by decide) dX6_packOf_47 (by decide) (fun c_3 => absurd c_3 (by decide)) (fun c_3 => ?_)
    refine lv_iload hx hb dX6_packOf_50 (lv_at hl 1 rfl) ?_
    refine lv_aload_n hx hb dX6_packOf_52 rfl (lv_at hl 2 rfl) ?_
    refine lv_iload_n hx hb dX6_packOf_53 rfl (lv_at hl 3 rfl) ?_
    refine x_cSI (As := [.int (nI j)]) (k_X6_at l G Y j) cw_X6_49 [] M hK hZ hw hl.1 rfl (by decide) ⟨by decide, by decide⟩ ⟨Nat.zero_le _, Nat.zero_le _⟩ rfl rfl (Nat.le_of_ble_eq_true rfl) dX6_packOf_54 (fun r sg h_4 H locs hw => ?_)
    obtain ⟨rfl, rfl⟩ := h_4
    have hw : xW G A s.heap [[(a, .inl (Y 0, 140, .inl (rowF ρ)))]] H locs := hw
    refine lv_iconst (v := (nI 5)) hx hb dX6_packOf_57 (by decide) ?_
    refine x_iadd M (n := 19 + 21 * j) dX6_packOf_58 (by omega) ?_
    refine lv_iload hx hb dX6_packOf_59 (lv_at hl 0 rfl) ?_
    refine x_iadd M (n := 19 + 21 * j) dX6_packOf_61 (by omega) ?_
    refine x_iald M hK hw 0 0 rfl rfl (by omega) (by decide) dX6_packOf_62 ?_
    refine x_topN (n := ρ (19 + 21 * j)) rfl ?_
    have q_5 : ρ (19 + 21 * j) ≤ 9 := hI.dem (j := j) (by omega) (k := 0) (by decide) (by omega)
    refine lv_aload_n hx hb dX6_packOf_63 rfl (lv_at hl 2 rfl) ?_
    refine lv_bipush (v := (nI 11)) hx hb dX6_packOf_64 (by decide) ?_
    refine lv_iload hx hb dX6_packOf_66 (lv_at hl 0 rfl) ?_
    refine x_iadd M (n := 11) dX6_packOf_68 rfl ?_
    refine x_iald M hK hw 0 0 rfl rfl (by decide) (by decide) dX6_packOf_69 ?_
    refine x_topN (n := ρ 11) rfl ?_
    have q_6 : 1 ≤ ρ 11 := (hI.pri (q := 11) (k := 0) (by decide) rfl).1
    have q_7 : ρ 11 ≤ 99999 := (hI.pri (q := 11) (k := 0) (by decide) rfl).2
    refine x_imul M (n := (ρ (19 + 21 * j)) * (ρ 11)) dX6_packOf_70 rfl ?_
    have q_8 : (ρ (19 + 21 * j)) * (ρ 11) ≤ 899991 := Nat.le_trans (Nat.mul_le_mul (show ρ (19 + 21 * j) ≤ 9 by omega) (show ρ 11 ≤ 99999 by omega)) (by decide)
    refine x_iadd M (n := ((ρ (19 + 21 * j)) * (ρ 11))) dX6_packOf_71 (by omega) ?_
    refine lv_istore (lv' := [(4, .int (nI ((ρ (19 + 21 * j)) * (ρ 11)))), (5, .int (nI 0)), (0, .ref a), (1, .int (nI j)), (2, .int (nI i)), (3, .int (nI 3))]) hx hb dX6_packOf_72 hl (by decide) rfl (fun ls hl => ?_)
    refine lv_iinc (v := (nI 1)) (lv' := [(5, .int (nI 1)), (4, .int (nI ((ρ (19 + 21 * j)) * (ρ 11)))), (0, .ref a), (1, .int (nI j)), (2, .int (nI i)), (3, .int (nI 3))]) hx hb dX6_packOf_74 hl (k := 1) rfl (by decide) (by decide) rfl (fun ls hl => ?_)
    refine lv_goto (tgt := 44) hx hb dX6_packOf_77 (by decide) ?_
    refine lv_iload hx hb dX6_packOf_44 (lv_at hl 0 rfl) ?_
    refine lv_iconst (v := (nI 3)) hx hb dX6_packOf_46 (by decide) ?_
    refine x_cge M (tgt := 80) (by decide) (by decide) dX6_packOf_47 (by decide) (fun c_9 => absurd c_9 (by decide)) (fun c_9 => ?_)
    refine lv_iload hx hb dX6_packOf_50 (lv_at hl 1 rfl) ?_
    refine lv_aload_n hx hb dX6_packOf_52 rfl (lv_at hl 2 rfl) ?_
    refine lv_iload_n hx hb dX6_packOf_53 rfl (lv_at hl 3 rfl) ?_
    refine x_cSI (As := [.int (nI j)]) (k_X6_at l G Y j) cw_X6_49 [] M hK hZ hw hl.1 rfl (by decide) ⟨by decide, by decide⟩ ⟨Nat.zero_le _, Nat.zero_le _⟩ rfl rfl (Nat.le_of_ble_eq_true rfl) dX6_packOf_54 (fun r sg h_10 H locs hw => ?_)
    obtain ⟨rfl, rfl⟩ := h_10
    have hw : xW G A s.heap [[(a, .inl (Y 0, 140, .inl (rowF ρ)))]] H locs := hw
    refine lv_iconst (v := (nI 5)) hx hb dX6_packOf_57 (by decide) ?_
    refine x_iadd M (n := 19 + 21 * j) dX6_packOf_58 (by omega) ?_
    refine lv_iload hx hb dX6_packOf_59 (lv_at hl 0 rfl) ?_
    refine x_iadd M (n := 20 + 21 * j) dX6_packOf_61 (by omega) ?_
    refine x_iald M hK hw 0 0 rfl rfl (by omega) (by decide) dX6_packOf_62 ?_
    refine x_topN (n := ρ (20 + 21 * j)) rfl ?_
    have q_11 : ρ (20 + 21 * j) ≤ 9 := hI.dem (j := j) (by omega) (k := 1) (by decide) (by omega)
    refine lv_aload_n hx hb dX6_packOf_63 rfl (lv_at hl 2 rfl) ?_
    refine lv_bipush (v := (nI 11)) hx hb dX6_packOf_64 (by decide) ?_
    refine lv_iload hx hb dX6_packOf_66 (lv_at hl 0 rfl) ?_
    refine x_iadd M (n := 12) dX6_packOf_68 rfl ?_
    refine x_iald M hK hw 0 0 rfl rfl (by decide) (by decide) dX6_packOf_69 ?_
    refine x_topN (n := ρ 12) rfl ?_
    have q_12 : 1 ≤ ρ 12 := (hI.pri (q := 12) (k := 1) (by decide) rfl).1
    have q_13 : ρ 12 ≤ 99999 := (hI.pri (q := 12) (k := 1) (by decide) rfl).2
    refine x_imul M (n := (ρ (20 + 21 * j)) * (ρ 12)) dX6_packOf_70 rfl ?_
    have q_14 : (ρ (20 + 21 * j)) * (ρ 12) ≤ 899991 := Nat.le_trans (Nat.mul_le_mul (show ρ (20 + 21 * j) ≤ 9 by omega) (show ρ 12 ≤ 99999 by omega)) (by decide)
    refine x_iadd M (n := ((ρ (19 + 21 * j)) * (ρ 11)) + ((ρ (20 + 21 * j)) * (ρ 12))) dX6_packOf_71 rfl ?_
    refine lv_istore (lv' := [(4, .int (nI (((ρ (19 + 21 * j)) * (ρ 11)) + ((ρ (20 + 21 * j)) * (ρ 12))))), (5, .int (nI 1)), (0, .ref a), (1, .int (nI j)), (2, .int (nI i)), (3, .int (nI 3))]) hx hb dX6_packOf_72 hl (by decide) rfl (fun ls hl => ?_)
    refine lv_iinc (v := (nI 2)) (lv' := [(5, .int (nI 2)), (4, .int (nI (((ρ (19 + 21 * j)) * (ρ 11)) + ((ρ (20 + 21 * j)) * (ρ 12))))), (0, .ref a), (1, .int (nI j)), (2, .int (nI i)), (3, .int (nI 3))]) hx hb dX6_packOf_74 hl (k := 1) rfl (by decide) (by decide) rfl (fun ls hl => ?_)
    refine lv_goto (tgt := 44) hx hb dX6_packOf_77 (by decide) ?_
    refine lv_iload hx hb dX6_packOf_44 (lv_at hl 0 rfl) ?_
    refine lv_iconst (v := (nI 3)) hx hb dX6_packOf_46 (by decide) ?_
    refine x_cge M (tgt := 80) (by decide) (by decide) dX6_packOf_47 (by decide) (fun c_15 => absurd c_15 (by decide)) (fun c_15 => ?_)
    refine lv_iload hx hb dX6_packOf_50 (lv_at hl 1 rfl) ?_
    refine lv_aload_n hx hb dX6_packOf_52 rfl (lv_at hl 2 rfl) ?_
    refine lv_iload_n hx hb dX6_packOf_53 rfl (lv_at hl 3 rfl) ?_
    refine x_cSI (As := [.int (nI j)]) (k_X6_at l G Y j) cw_X6_49 [] M hK hZ hw hl.1 rfl (by decide) ⟨by decide, by decide⟩ ⟨Nat.zero_le _, Nat.zero_le _⟩ rfl rfl (Nat.le_of_ble_eq_true rfl) dX6_packOf_54 (fun r sg h_16 H locs hw => ?_)
    obtain ⟨rfl, rfl⟩ := h_16
    have hw : xW G A s.heap [[(a, .inl (Y 0, 140, .inl (rowF ρ)))]] H locs := hw
    refine lv_iconst (v := (nI 5)) hx hb dX6_packOf_57 (by decide) ?_
    refine x_iadd M (n := 19 + 21 * j) dX6_packOf_58 (by omega) ?_
    refine lv_iload hx hb dX6_packOf_59 (lv_at hl 0 rfl) ?_
    refine x_iadd M (n := 21 + 21 * j) dX6_packOf_61 (by omega) ?_
    refine x_iald M hK hw 0 0 rfl rfl (by omega) (by decide) dX6_packOf_62 ?_
    refine x_topN (n := ρ (21 + 21 * j)) rfl ?_
    have q_17 : ρ (21 + 21 * j) ≤ 9 := hI.dem (j := j) (by omega) (k := 2) (by decide) (by omega)
    refine lv_aload_n hx hb dX6_packOf_63 rfl (lv_at hl 2 rfl) ?_
    refine lv_bipush (v := (nI 11)) hx hb dX6_packOf_64 (by decide) ?_
    refine lv_iload hx hb dX6_packOf_66 (lv_at hl 0 rfl) ?_
    refine x_iadd M (n := 13) dX6_packOf_68 rfl ?_
    refine x_iald M hK hw 0 0 rfl rfl (by decide) (by decide) dX6_packOf_69 ?_
    refine x_topN (n := ρ 13) rfl ?_
    have q_18 : 1 ≤ ρ 13 := (hI.pri (q := 13) (k := 2) (by decide) rfl).1
    have q_19 : ρ 13 ≤ 99999 := (hI.pri (q := 13) (k := 2) (by decide) rfl).2
    refine x_imul M (n := (ρ (21 + 21 * j)) * (ρ 13)) dX6_packOf_70 rfl ?_
    have q_20 : (ρ (21 + 21 * j)) * (ρ 13) ≤ 899991 := Nat.le_trans (Nat.mul_le_mul (show ρ (21 + 21 * j) ≤ 9 by omega) (show ρ 13 ≤ 99999 by omega)) (by decide)
    refine x_iadd M (n := ((ρ (19 + 21 * j)) * (ρ 11)) + ((ρ (20 + 21 * j)) * (ρ 12)) + ((ρ (21 + 21 * j)) * (ρ 13))) dX6_packOf_71 rfl ?_
    refine lv_istore (lv' := [(4, .int (nI (((ρ (19 + 21 * j)) * (ρ 11)) + ((ρ (20 + 21 * j)) * (ρ 12)) + ((ρ (21 + 21 * j)) * (ρ 13))))), (5, .int (nI 2)), (0, .ref a), (1, .int (nI j)), (2, .int (nI i)), (3, .int (nI 3))]) hx hb dX6_packOf_72 hl (by decide) rfl (fun ls hl => ?_)
    refine lv_iinc (v := (nI 3)) (lv' := [(5, .int (nI 3)), (4, .int (nI (((ρ (19 + 21 * j)) * (ρ 11)) + ((ρ (20 + 21 * j)) * (ρ 12)) + ((ρ (21 + 21 * j)) * (ρ 13))))), (0, .ref a), (1, .int (nI j)), (2, .int (nI i)), (3, .int (nI 3))]) hx hb dX6_packOf_74 hl (k := 1) rfl (by decide) (by decide) rfl (fun ls hl => ?_)
    refine lv_goto (tgt := 44) hx hb dX6_packOf_77 (by decide) ?_
    refine lv_iload hx hb dX6_packOf_44 (lv_at hl 0 rfl) ?_
    refine lv_iconst (v := (nI 3)) hx hb dX6_packOf_46 (by decide) ?_
    refine x_cge M (tgt := 80) (by decide) (by decide) dX6_packOf_47 (by decide) (fun c_21 => ?_) (fun c_21 => absurd c_21 (by decide))
    refine lv_iload hx hb dX6_packOf_80 (lv_at hl 1 rfl) ?_
    exact hret _ _ _ (nI (((ρ (19 + 21 * j)) * (ρ 11)) + ((ρ (20 + 21 * j)) * (ρ 12)) + ((ρ (21 + 21 * j)) * (ρ 13)))) _ _ dX6_packOf_82 hw rfl rfl ⟨congrArg nI (by simp only [worOf, costOf]; rw [if_neg (by omega)]), rfl⟩
  refine lv_aload_n hx hb dX6_packOf_4 rfl (lv_at hl 0 rfl) ?_
  refine lv_iload_n hx hb dX6_packOf_5 rfl (lv_at hl 1 rfl) ?_
  refine x_cSI (As := [.int (nI j)]) (k_X6_at l G Y j) cw_X6_49 [] M hK hZ hw hl.1 rfl (by decide) ⟨by decide, by decide⟩ ⟨Nat.zero_le _, Nat.zero_le _⟩ rfl rfl (Nat.le_of_ble_eq_true rfl) dX6_packOf_6 (fun r sg h_22 H locs hw => ?_)
  obtain ⟨rfl, rfl⟩ := h_22
  have hw : xW G A s.heap [[(a, .inl (Y 0, 140, .inl (rowF ρ)))]] H locs := hw
  refine lv_bipush (v := (nI 9)) hx hb dX6_packOf_9 (by decide) ?_
  refine x_iadd M (n := 23 + 21 * j) dX6_packOf_11 (by omega) ?_
  refine lv_iconst (v := (nI 4)) hx hb dX6_packOf_12 (by decide) ?_
  refine lv_iload_n hx hb dX6_packOf_13 rfl (lv_at hl 2 rfl) ?_
  refine lv_iconst (v := (nI 1)) hx hb dX6_packOf_14 (by decide) ?_
  refine x_isub M (n := (i - 1)) dX6_packOf_15 (by omega) ?_
  refine x_imul M (n := 4 * (i - 1)) dX6_packOf_16 (by omega) ?_
  refine x_iadd M (n := 23 + 21 * j + 4 * (i - 1)) dX6_packOf_17 rfl ?_
  refine lv_iload_n hx hb dX6_packOf_18 rfl (lv_at hl 3 rfl) ?_
  refine x_iadd M (n := 26 + 21 * j + 4 * (i - 1)) dX6_packOf_19 (by omega) ?_
  refine x_iald M hK hw 0 0 rfl rfl (by omega) (by decide) dX6_packOf_20 ?_
  refine x_topN (n := ρ (26 + 21 * j + 4 * (i - 1))) rfl ?_
  have q_23 : ρ (26 + 21 * j + 4 * (i - 1)) ≤ 999999 := hI.wor (j := j) (i := (i - 1)) (by omega) (by omega) (by omega)
  exact hret _ _ _ (nI (ρ (26 + 21 * j + 4 * (i - 1)))) _ _ dX6_packOf_21 hw rfl rfl ⟨congrArg nI (by simp only [worOf, costOf]; rw [if_pos (by omega)]), rfl⟩
