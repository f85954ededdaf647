set_option maxHeartbeats 4000000 in
set_option maxRecDepth 20000 in
theorem k_X5_pack (l : Launch) (G : va_G) (Y : Nat → Nat) (xo h0 h1 hh sl sv tz az : Nat) (j i w : Nat) (ρ : Nat → Nat) (γ : Nat → Nat → Nat) (hI : Inv ρ) (hj : j < ρ 4) (hi : i ≤ ρ (22 + 21 * j)) (hw4 : w < 4) : CtI l yX5_pack cX5_pack 4 .int 3 64 [.ref xo, .int (nI j), .int (nI i), .int (nI w)] [[(xo, .inr (4, [.ref h0, .ref h1, .ref hh, .ref sl, .ref sv, .ref tz, .ref az]))], aucW Y h0 ρ γ] (fun r sg => r = nI (pckV ρ j i w) ∧ sg = [[(xo, .inr (4, [.ref h0, .ref h1, .ref hh, .ref sl, .ref sv, .ref tz, .ref az]))], aucW Y h0 ρ γ]) G Y := by
  refine x_ofI (by decide) (Nat.le_of_ble_eq_true rfl) (fun p e s m args below meth c A ls Q M hK hZ hw hl hret => ?_)
  obtain ⟨hx, hb, -⟩ := id M
  have hl : lv_has ls 4 [(0, .ref xo), (1, .int (nI j)), (2, .int (nI i)), (3, .int (nI w))] := hl
  have hpk := hI.pck (j := j) hj rfl
  have := hI.n6
  have := hI.over
  have := hI.keep
  have := hI.stepp
  refine lv_aload_n hx hb dX5_pack_0 rfl (lv_at hl 0 rfl) ?_
  refine lv_iload_n hx hb dX5_pack_1 rfl (lv_at hl 1 rfl) ?_
  refine x_cVV (As := [.int (nI j)]) (k_X5_needBidder l G Y xo h0 h1 hh sl sv tz az j ρ γ (hI) (by omega)) cw_X5_133 [0, 1] 0 0 M hK hZ hw hl.1 rfl (by decide) rfl rfl rfl ⟨by decide, by decide⟩ ⟨Nat.zero_le _, Nat.zero_le _⟩ rfl rfl (Nat.le_of_ble_eq_true rfl) dX5_pack_2 (fun sg h_1 H locs hw => ?_)
  obtain rfl := h_1
  have hw : xW G A s.heap [[(xo, .inr (4, [.ref h0, .ref h1, .ref hh, .ref sl, .ref sv, .ref tz, .ref az]))], aucW Y h0 ρ γ] H locs := hw
  refine lv_iload_n hx hb dX5_pack_5 rfl (lv_at hl 2 rfl) ?_
  refine lv_iconst (v := (nI 0)) hx hb dX5_pack_6 (by decide) ?_
  refine lv_aload_n hx hb dX5_pack_7 rfl (lv_at hl 0 rfl) ?_
  refine x_get M hK hw 0 0 rfl rfl ff_X5_10 rfl dX5_pack_8 ?_
  refine x_get M hK hw 1 0 rfl rfl ff_X5_145 rfl dX5_pack_11 ?_
  refine lv_iload_n hx hb dX5_pack_14 rfl (lv_at hl 1 rfl) ?_
  refine x_iald M hK hw 1 6 rfl rfl (by omega) (by decide) dX5_pack_15 ?_
  refine x_topN (n := ρ (22 + 21 * j)) (congrArg nI (pck_at (j := j) (by omega) rfl (by omega))) ?_
  have q_2 : ρ (22 + 21 * j) ≤ 3 := hI.pck (j := j) (by omega) (by omega)
  refine x_cSI (As := [.int (nI i), .int (nI 0), .int (nI (ρ (22 + 21 * j)))]) (k_X5_outside l G Y (nI i) (nI 0) (nI (ρ (22 + 21 * j)))) cw_X5_48 [] M hK hZ hw hl.1 rfl (by decide) ⟨by decide, by decide⟩ ⟨Nat.zero_le _, Nat.zero_le _⟩ rfl rfl (Nat.le_of_ble_eq_true rfl) dX5_pack_16 (fun r sg h_3 H locs hw => ?_)
  obtain ⟨rfl, rfl⟩ := h_3
  have hw : xW G A s.heap [[(xo, .inr (4, [.ref h0, .ref h1, .ref hh, .ref sl, .ref sv, .ref tz, .ref az]))], aucW Y h0 ρ γ] H locs := hw
  refine x_beq M (tgt := 32) dX5_pack_19 (by decide) (fun c_4 => ?_) (fun c_4 => absurd c_4 (fun z => by have z2 : (!inZ (nI i).toInt 0 (nI (ρ (22 + 21 * j))).toInt) = true := z; rw [nI_toInt (n := ρ (22 + 21 * j)) (by omega)] at z2; exact nzT z2 (by omega) ⟨by omega, by omega⟩))
  refine lv_iload_n hx hb dX5_pack_32 rfl (lv_at hl 3 rfl) ?_
  refine lv_iconst (v := (nI 0)) hx hb dX5_pack_33 (by decide) ?_
  refine lv_iconst (v := (nI 3)) hx hb dX5_pack_34 (by decide) ?_
  refine x_cSI (As := [.int (nI w), .int (nI 0), .int (nI 3)]) (k_X5_outside l G Y (nI w) (nI 0) (nI 3)) cw_X5_48 [] M hK hZ hw hl.1 rfl (by decide) ⟨by decide, by decide⟩ ⟨Nat.zero_le _, Nat.zero_le _⟩ rfl rfl (Nat.le_of_ble_eq_true rfl) dX5_pack_35 (fun r sg h_5 H locs hw => ?_)
  obtain ⟨rfl, rfl⟩ := h_5
  have hw : xW G A s.heap [[(xo, .inr (4, [.ref h0, .ref h1, .ref hh, .ref sl, .ref sv, .ref tz, .ref az]))], aucW Y h0 ρ γ] H locs := hw
  refine x_beq M (tgt := 51) dX5_pack_38 (by decide) (fun c_6 => ?_) (fun c_6 => absurd c_6 (fun z => nzT (a := 0) (b := 3) z (by omega) ⟨by omega, by omega⟩))
  refine lv_iload_n hx hb dX5_pack_51 rfl (lv_at hl 3 rfl) ?_
  refine lv_iconst (v := (nI 3)) hx hb dX5_pack_52 (by decide) ?_
  refine x_cne M (tgt := 68) (by omega) (by decide) dX5_pack_53 (by decide) (fun c_7 => ?_) (fun c_7 => ?_)
  · refine lv_aload_n hx hb dX5_pack_68 rfl (lv_at hl 0 rfl) ?_
    refine x_get M hK hw 0 0 rfl rfl ff_X5_10 rfl dX5_pack_69 ?_
    refine lv_iload_n hx hb dX5_pack_72 rfl (lv_at hl 1 rfl) ?_
    refine lv_iload_n hx hb dX5_pack_73 rfl (lv_at hl 2 rfl) ?_
    refine lv_iload_n hx hb dX5_pack_74 rfl (lv_at hl 3 rfl) ?_
    refine x_cVI (As := [.int (nI j), .int (nI i), .int (nI w)]) (k_X1_packLots l G Y h0 j i w ρ γ (hI) (by omega) (by omega) (by omega)) cw_X5_168 [1] 1 0 M hK hZ hw hl.1 rfl (by decide) rfl rfl rfl ⟨by decide, by decide⟩ ⟨Nat.zero_le _, Nat.zero_le _⟩ rfl rfl (Nat.le_of_ble_eq_true rfl) dX5_pack_75 (fun r sg h_8 H locs hw => ?_)
    obtain ⟨rfl, rfl⟩ := h_8
    have hw : xW G A s.heap [[(xo, .inr (4, [.ref h0, .ref h1, .ref hh, .ref sl, .ref sv, .ref tz, .ref az]))], aucW Y h0 ρ γ] H locs := hw
    have q_9 : lotOf ρ j i w ≤ 9 := lotOf_le hI (by omega) (by omega) (by omega)
    exact hret _ _ _ (nI (lotOf ρ j i w)) _ _ dX5_pack_78 hw rfl rfl ⟨by clear hret hw hl M hK hZ hx hb; unfold pckV; rw [if_neg (by omega)], rfl⟩
  refine lv_aload_n hx hb dX5_pack_56 rfl (lv_at hl 0 rfl) ?_
  refine x_get M hK hw 0 0 rfl rfl ff_X5_10 rfl dX5_pack_57 ?_
  refine lv_iload_n hx hb dX5_pack_60 rfl (lv_at hl 1 rfl) ?_
  refine lv_iload_n hx hb dX5_pack_61 rfl (lv_at hl 2 rfl) ?_
  refine x_cVI (As := [.int (nI j), .int (nI i)]) (k_X1_packValue l G Y h0 j i ρ γ (hI) (by omega) (by omega)) cw_X5_165 [1] 1 0 M hK hZ hw hl.1 rfl (by decide) rfl rfl rfl ⟨by decide, by decide⟩ ⟨Nat.zero_le _, Nat.zero_le _⟩ rfl rfl (Nat.le_of_ble_eq_true rfl) dX5_pack_62 (fun r sg h_10 H locs hw => ?_)
  obtain ⟨rfl, rfl⟩ := h_10
  have hw : xW G A s.heap [[(xo, .inr (4, [.ref h0, .ref h1, .ref hh, .ref sl, .ref sv, .ref tz, .ref az]))], aucW Y h0 ρ γ] H locs := hw
  have q_11 : worOf ρ j i ≤ 2699973 := worOf_le hI (by omega) (by omega)
  refine lv_goto (tgt := 78) hx hb dX5_pack_65 (by decide) ?_
  exact hret _ _ _ (nI (worOf ρ j i)) _ _ dX5_pack_78 hw rfl rfl ⟨by clear hret hw hl M hK hZ hx hb; unfold pckV; rw [if_pos (by omega)], rfl⟩
set_option maxHeartbeats 4000000 in
set_option maxRecDepth 20000 in
theorem t_X5_pack_1 (l : Launch) (hfl : l.stackTraces = false) (G : va_G) (Y : Nat → Nat) (xo h0 h1 hh sl sv tz az : Nat) (b i w : Int32) (ρ : Nat → Nat) (γ : Nat → Nat → Nat) (hI : Inv ρ) (hk : (!inZ b.toInt 0 ((ρ 4 : Int) - 1)) = true) : CtT l yX5_pack cX5_pack 4 (some .int) 7 103 [.ref xo, .int b, .int i, .int w] [[(xo, .inr (4, [.ref h0, .ref h1, .ref hh, .ref sl, .ref sv, .ref tz, .ref az]))], aucW Y h0 ρ γ] eIOB G Y := by
  refine x_ofT (by decide) (Nat.le_of_ble_eq_true rfl) (fun p e s m args below meth c A ls Q M hK hZ hw hl htab hlk hQ => ?_)
  obtain ⟨hx, hb, -⟩ := id M
  have hl : lv_has ls 4 [(0, .ref xo), (1, .int b), (2, .int i), (3, .int w)] := hl
  refine lv_aload_n hx hb dX5_pack_0 rfl (lv_at hl 0 rfl) ?_
  refine lv_iload_n hx hb dX5_pack_1 rfl (lv_at hl 1 rfl) ?_
  exact x_cVT (As := [.int b]) (t_X5_needBidder l hfl G Y xo h0 h1 hh sl sv tz az b ρ γ (hI) (by omega)) cw_X5_133 [0, 1] 0 0 M hK hZ hw hl.1 rfl (by decide) rfl rfl rfl ⟨by decide, by decide⟩ ⟨by decide, by decide⟩ rfl rfl (Nat.le_of_ble_eq_true rfl) dX5_pack_2 htab hlk hQ
set_option maxHeartbeats 4000000 in
set_option maxRecDepth 20000 in
theorem t_X5_pack_2 (l : Launch) (hfl : l.stackTraces = false) (G : va_G) (Y : Nat → Nat) (xo h0 h1 hh sl sv tz az : Nat) (j : Nat) (i w : Int32) (ρ : Nat → Nat) (γ : Nat → Nat → Nat) (hI : Inv ρ) (hj : j < ρ 4) (hk : (!inZ i.toInt 0 (ρ (22 + 21 * j) : Int)) = true) : CtT l yX5_pack cX5_pack 4 (some .int) 6 82 [.ref xo, .int (nI j), .int i, .int w] [[(xo, .inr (4, [.ref h0, .ref h1, .ref hh, .ref sl, .ref sv, .ref tz, .ref az]))], aucW Y h0 ρ γ] eIOB G Y := by
  refine x_ofT (by decide) (Nat.le_of_ble_eq_true rfl) (fun p e s m args below meth c A ls Q M hK hZ hw hl htab hlk hQ => ?_)
  obtain ⟨hx, hb, -⟩ := id M
  have hl : lv_has ls 4 [(0, .ref xo), (1, .int (nI j)), (2, .int i), (3, .int w)] := hl
  have := hI.n6
  have hpk := hI.pck (j := j) hj rfl
  refine lv_aload_n hx hb dX5_pack_0 rfl (lv_at hl 0 rfl) ?_
  refine lv_iload_n hx hb dX5_pack_1 rfl (lv_at hl 1 rfl) ?_
  refine x_cVV (As := [.int (nI j)]) (k_X5_needBidder l G Y xo h0 h1 hh sl sv tz az j ρ γ (hI) (by omega)) cw_X5_133 [0, 1] 0 0 M hK hZ hw hl.1 rfl (by decide) rfl rfl rfl ⟨by decide, by decide⟩ ⟨Nat.zero_le _, Nat.zero_le _⟩ rfl rfl (Nat.le_of_ble_eq_true rfl) dX5_pack_2 (fun sg h_1 H locs hw => ?_)
  obtain rfl := h_1
  have hw : xW G A s.heap [[(xo, .inr (4, [.ref h0, .ref h1, .ref hh, .ref sl, .ref sv, .ref tz, .ref az]))], aucW Y h0 ρ γ] H locs := hw
  refine lv_iload_n hx hb dX5_pack_5 rfl (lv_at hl 2 rfl) ?_
  refine lv_iconst (v := (nI 0)) hx hb dX5_pack_6 (by decide) ?_
  refine lv_aload_n hx hb dX5_pack_7 rfl (lv_at hl 0 rfl) ?_
  refine x_get M hK hw 0 0 rfl rfl ff_X5_10 rfl dX5_pack_8 ?_
  refine x_get M hK hw 1 0 rfl rfl ff_X5_145 rfl dX5_pack_11 ?_
  refine lv_iload_n hx hb dX5_pack_14 rfl (lv_at hl 1 rfl) ?_
  refine x_iald M hK hw 1 6 rfl rfl (by omega) (by decide) dX5_pack_15 ?_
  refine x_topN (n := ρ (22 + 21 * j)) (congrArg nI (pck_at (j := j) (by omega) rfl (by omega))) ?_
  have q_2 : ρ (22 + 21 * j) ≤ 3 := hI.pck (j := j) (by omega) (by omega)
  refine x_cSI (As := [.int i, .int (nI 0), .int (nI (ρ (22 + 21 * j)))]) (k_X5_outside l G Y i (nI 0) (nI (ρ (22 + 21 * j)))) cw_X5_48 [] M hK hZ hw hl.1 rfl (by decide) ⟨by decide, by decide⟩ ⟨Nat.zero_le _, Nat.zero_le _⟩ rfl rfl (Nat.le_of_ble_eq_true rfl) dX5_pack_16 (fun r sg h_3 H locs hw => ?_)
  obtain ⟨rfl, rfl⟩ := h_3
  have hw : xW G A s.heap [[(xo, .inr (4, [.ref h0, .ref h1, .ref hh, .ref sl, .ref sv, .ref tz, .ref az]))], aucW Y h0 ρ γ] H locs := hw
  refine x_beq M (tgt := 32) dX5_pack_19 (by decide) (fun c_4 => absurd c_4 (fun z => by have z2 : (!inZ i.toInt 0 (nI (ρ (22 + 21 * j))).toInt) = false := z; rw [nI_toInt (n := ρ (22 + 21 * j)) (by omega), hk] at z2; exact absurd z2 (by decide))) (fun c_4 => ?_)
  exact x_throwS (own := RX5) (ik := 160) (ic := 164) (is := 162) (q := 220) (text := "no such package") hfl M hK hZ hw hl.1 htab hlk hQ thr_IOB (by simp [xStr]) dX5_pack_22 dX5_pack_25 dX5_pack_26 dX5_pack_28 dX5_pack_31 ⟨by decide, by decide, by decide, by decide⟩
set_option maxHeartbeats 4000000 in
set_option maxRecDepth 20000 in
theorem t_X5_pack_3 (l : Launch) (hfl : l.stackTraces = false) (G : va_G) (Y : Nat → Nat) (xo h0 h1 hh sl sv tz az : Nat) (j i : Nat) (w : Int32) (ρ : Nat → Nat) (γ : Nat → Nat → Nat) (hI : Inv ρ) (hj : j < ρ 4) (hi : i ≤ ρ (22 + 21 * j)) (hk : (!inZ w.toInt 0 3) = true) : CtT l yX5_pack cX5_pack 4 (some .int) 6 82 [.ref xo, .int (nI j), .int (nI i), .int w] [[(xo, .inr (4, [.ref h0, .ref h1, .ref hh, .ref sl, .ref sv, .ref tz, .ref az]))], aucW Y h0 ρ γ] eIAE G Y := by
  refine x_ofT (by decide) (Nat.le_of_ble_eq_true rfl) (fun p e s m args below meth c A ls Q M hK hZ hw hl htab hlk hQ => ?_)
  obtain ⟨hx, hb, -⟩ := id M
  have hl : lv_has ls 4 [(0, .ref xo), (1, .int (nI j)), (2, .int (nI i)), (3, .int w)] := hl
  have := hI.n6
  have hpk := hI.pck (j := j) hj rfl
  refine lv_aload_n hx hb dX5_pack_0 rfl (lv_at hl 0 rfl) ?_
  refine lv_iload_n hx hb dX5_pack_1 rfl (lv_at hl 1 rfl) ?_
  refine x_cVV (As := [.int (nI j)]) (k_X5_needBidder l G Y xo h0 h1 hh sl sv tz az j ρ γ (hI) (by omega)) cw_X5_133 [0, 1] 0 0 M hK hZ hw hl.1 rfl (by decide) rfl rfl rfl ⟨by decide, by decide⟩ ⟨Nat.zero_le _, Nat.zero_le _⟩ rfl rfl (Nat.le_of_ble_eq_true rfl) dX5_pack_2 (fun sg h_1 H locs hw => ?_)
  obtain rfl := h_1
  have hw : xW G A s.heap [[(xo, .inr (4, [.ref h0, .ref h1, .ref hh, .ref sl, .ref sv, .ref tz, .ref az]))], aucW Y h0 ρ γ] H locs := hw
  refine lv_iload_n hx hb dX5_pack_5 rfl (lv_at hl 2 rfl) ?_
  refine lv_iconst (v := (nI 0)) hx hb dX5_pack_6 (by decide) ?_
  refine lv_aload_n hx hb dX5_pack_7 rfl (lv_at hl 0 rfl) ?_
  refine x_get M hK hw 0 0 rfl rfl ff_X5_10 rfl dX5_pack_8 ?_
  refine x_get M hK hw 1 0 rfl rfl ff_X5_145 rfl dX5_pack_11 ?_
  refine lv_iload_n hx hb dX5_pack_14 rfl (lv_at hl 1 rfl) ?_
  refine x_iald M hK hw 1 6 rfl rfl (by omega) (by decide) dX5_pack_15 ?_
  refine x_topN (n := ρ (22 + 21 * j)) (congrArg nI (pck_at (j := j) (by omega) rfl (by omega))) ?_
  have q_2 : ρ (22 + 21 * j) ≤ 3 := hI.pck (j := j) (by omega) (by omega)
  refine x_cSI (As := [.int (nI i), .int (nI 0), .int (nI (ρ (22 + 21 * j)))]) (k_X5_outside l G Y (nI i) (nI 0) (nI (ρ (22 + 21 * j)))) cw_X5_48 [] M hK hZ hw hl.1 rfl (by decide) ⟨by decide, by decide⟩ ⟨Nat.zero_le _, Nat.zero_le _⟩ rfl rfl (Nat.le_of_ble_eq_true rfl) dX5_pack_16 (fun r sg h_3 H locs hw => ?_)
  obtain ⟨rfl, rfl⟩ := h_3
  have hw : xW G A s.heap [[(xo, .inr (4, [.ref h0, .ref h1, .ref hh, .ref sl, .ref sv, .ref tz, .ref az]))], aucW Y h0 ρ γ] H locs := hw
  refine x_beq M (tgt := 32) dX5_pack_19 (by decide) (fun c_4 => ?_) (fun c_4 => absurd c_4 (fun z => by have z2 : (!inZ (nI i).toInt 0 (nI (ρ (22 + 21 * j))).toInt) = true := z; rw [nI_toInt (n := ρ (22 + 21 * j)) (by omega)] at z2; exact nzT z2 (by omega) ⟨by omega, by omega⟩))
  refine lv_iload_n hx hb dX5_pack_32 rfl (lv_at hl 3 rfl) ?_
  refine lv_iconst (v := (nI 0)) hx hb dX5_pack_33 (by decide) ?_
  refine lv_iconst (v := (nI 3)) hx hb dX5_pack_34 (by decide) ?_
  refine x_cSI (As := [.int w, .int (nI 0), .int (nI 3)]) (k_X5_outside l G Y w (nI 0) (nI 3)) cw_X5_48 [] M hK hZ hw hl.1 rfl (by decide) ⟨by decide, by decide⟩ ⟨Nat.zero_le _, Nat.zero_le _⟩ rfl rfl (Nat.le_of_ble_eq_true rfl) dX5_pack_35 (fun r sg h_5 H locs hw => ?_)
  obtain ⟨rfl, rfl⟩ := h_5
  have hw : xW G A s.heap [[(xo, .inr (4, [.ref h0, .ref h1, .ref hh, .ref sl, .ref sv, .ref tz, .ref az]))], aucW Y h0 ρ γ] H locs := hw
  refine x_beq M (tgt := 51) dX5_pack_38 (by decide) (fun c_6 => absurd c_6 (fun z => by have z2 : (!inZ w.toInt 0 3) = false := z; rw [hk] at z2; exact absurd z2 (by decide))) (fun c_6 => ?_)
  exact x_throwS (own := RX5) (ik := 52) (ic := 56) (is := 131) (q := 217) (text := "what is not 0 to 3") hfl M hK hZ hw hl.1 htab hlk hQ thr_IAE (by simp [xStr]) dX5_pack_41 dX5_pack_44 dX5_pack_45 dX5_pack_47 dX5_pack_50 ⟨by decide, by decide, by decide, by decide⟩
set_option maxHeartbeats 4000000 in
set_option maxRecDepth 20000 in
theorem k_X5_setting (l : Launch) (G : va_G) (Y : Nat → Nat) (xo h0 h1 hh sl sv tz az : Nat) (w : Nat) (ρ : Nat → Nat) (γ : Nat → Nat → Nat) (hI : Inv ρ) (hw2 : w < 2) : CtI l yX5_setting cX5_setting 2 .int 1 22 [.ref xo, .int (nI w)] [[(xo, .inr (4, [.ref h0, .ref h1, .ref hh, .ref sl, .ref sv, .ref tz, .ref az]))], aucW Y h0 ρ γ] (fun r sg => r = nI (setOf ρ (w : Int)) ∧ sg = [[(xo, .inr (4, [.ref h0, .ref h1, .ref hh, .ref sl, .ref sv, .ref tz, .ref az]))], aucW Y h0 ρ γ]) G Y := by
  refine x_ofI (by decide) (Nat.le_of_ble_eq_true rfl) (fun p e s m args below meth c A ls Q M hK hZ hw hl hret => ?_)
  obtain ⟨hx, hb, -⟩ := id M
  have hl : lv_has ls 2 [(0, .ref xo), (1, .int (nI w))] := hl
  have := hI.n6
  have := hI.over
  have := hI.keep
  have := hI.stepp
  refine lv_iload_n hx hb dX5_setting_0 rfl (lv_at hl 1 rfl) ?_
  refine lv_iconst (v := (nI 0)) hx hb dX5_setting_1 (by decide) ?_
  refine lv_iconst (v := (nI 1)) hx hb dX5_setting_2 (by decide) ?_
  refine x_cSI (As := [.int (nI w), .int (nI 0), .int (nI 1)]) (k_X5_outside l G Y (nI w) (nI 0) (nI 1)) cw_X5_48 [] M hK hZ hw hl.1 rfl (by decide) ⟨by decide, by decide⟩ ⟨Nat.zero_le _, Nat.zero_le _⟩ rfl rfl (Nat.le_of_ble_eq_true rfl) dX5_setting_3 (fun r sg h_1 H locs hw => ?_)
  obtain ⟨rfl, rfl⟩ := h_1
  have hw : xW G A s.heap [[(xo, .inr (4, [.ref h0, .ref h1, .ref hh, .ref sl, .ref sv, .ref tz, .ref az]))], aucW Y h0 ρ γ] H locs := hw
  refine x_beq M (tgt := 19) dX5_setting_6 (by decide) (fun c_2 => ?_) (fun c_2 => absurd c_2 (fun z => nzT (a := 0) (b := 1) z (by omega) ⟨by omega, by omega⟩))
  refine lv_aload_n hx hb dX5_setting_19 rfl (lv_at hl 0 rfl) ?_
  refine x_get M hK hw 0 0 rfl rfl ff_X5_10 rfl dX5_setting_20 ?_
  refine lv_iload_n hx hb dX5_setting_23 rfl (lv_at hl 1 rfl) ?_
  refine x_cVI (As := [.int (nI w)]) (k_X1_settingOf l G Y h0 ρ γ (nI w) (hI)) cw_X5_174 [1] 1 0 M hK hZ hw hl.1 rfl (by decide) rfl rfl rfl ⟨by decide, by decide⟩ ⟨Nat.zero_le _, Nat.zero_le _⟩ rfl rfl (Nat.le_of_ble_eq_true rfl) dX5_setting_24 (fun r sg h_3 H locs hw => ?_)
  obtain ⟨rfl, rfl⟩ := h_3
  have hw : xW G A s.heap [[(xo, .inr (4, [.ref h0, .ref h1, .ref hh, .ref sl, .ref sv, .ref tz, .ref az]))], aucW Y h0 ρ γ] H locs := hw
  refine x_topN (n := setOf ρ (w : Int)) (by rw [nI_toInt (by omega)]) ?_
  exact hret _ _ _ (nI (setOf ρ (w : Int))) _ _ dX5_setting_27 hw rfl rfl ⟨rfl, rfl⟩
set_option maxHeartbeats 4000000 in
set_option maxRecDepth 20000 in
theorem t_X5_setting (l : Launch) (hfl : l.stackTraces = false) (G : va_G) (Y : Nat → Nat) (xo h0 h1 hh sl sv tz az : Nat) (w : Int32) (ρ : Nat → Nat) (γ : Nat → Nat → Nat) (hk : (!inZ w.toInt 0 1) = true) : CtT l yX5_setting cX5_setting 2 (some .int) 6 82 [.ref xo, .int w] [[(xo, .inr (4, [.ref h0, .ref h1, .ref hh, .ref sl, .ref sv, .ref tz, .ref az]))], aucW Y h0 ρ γ] eIAE G Y := by
  refine x_ofT (by decide) (Nat.le_of_ble_eq_true rfl) (fun p e s m args below meth c A ls Q M hK hZ hw hl htab hlk hQ => ?_)
  obtain ⟨hx, hb, -⟩ := id M
  have hl : lv_has ls 2 [(0, .ref xo), (1, .int w)] := hl
  refine lv_iload_n hx hb dX5_setting_0 rfl (lv_at hl 1 rfl) ?_
  refine lv_iconst (v := (nI 0)) hx hb dX5_setting_1 (by decide) ?_
  refine lv_iconst (v := (nI 1)) hx hb dX5_setting_2 (by decide) ?_
  refine x_cSI (As := [.int w, .int (nI 0), .int (nI 1)]) (k_X5_outside l G Y w (nI 0) (nI 1)) cw_X5_48 [] M hK hZ hw hl.1 rfl (by decide) ⟨by decide, by decide⟩ ⟨Nat.zero_le _, Nat.zero_le _⟩ rfl rfl (Nat.le_of_ble_eq_true rfl) dX5_setting_3 (fun r sg h_1 H locs hw => ?_)
  obtain ⟨rfl, rfl⟩ := h_1
  have hw : xW G A s.heap [[(xo, .inr (4, [.ref h0, .ref h1, .ref hh, .ref sl, .ref sv, .ref tz, .ref az]))], aucW Y h0 ρ γ] H locs := hw
  refine x_beq M (tgt := 19) dX5_setting_6 (by decide) (fun c_2 => absurd c_2 (fun z => by have z2 : (!inZ w.toInt 0 1) = false := z; rw [hk] at z2; exact absurd z2 (by decide))) (fun c_2 => ?_)
  exact x_throwS (own := RX5) (ik := 52) (ic := 56) (is := 172) (q := 221) (text := "no such setting") hfl M hK hZ hw hl.1 htab hlk hQ thr_IAE (by simp [xStr]) dX5_setting_9 dX5_setting_12 dX5_setting_13 dX5_setting_15 dX5_setting_18 ⟨by decide, by decide, by decide, by decide⟩
set_option maxHeartbeats 4000000 in
set_option maxRecDepth 20000 in
theorem k_X5_offer (l : Launch) (G : va_G) (Y : Nat → Nat) (xo h0 h1 hh sl sv tz az : Nat) (hb2 nx ct : Nat) (rr : Nat → Nat → Nat) (gg : Nat → Nat → Nat → Nat) (k u v : Nat) (ρ : Nat → Nat) (γ : Nat → Nat → Nat) (hI : Inv ρ) (hnx : nx < 14) (hct : ct ≤ 14) (g0 : k < 2 ^ 31) (g1 : u < 2 ^ 31) (g2 : v < 2 ^ 31) (ht : tOffer ρ k u v = 0) : CtI l yX5_offer cX5_offer 5 .int 3 102 [.ref xo, .int (nI k), .int (nI u), .int (nI v)] [[(xo, .inr (4, [.ref h0, .ref h1, .ref hh, .ref sl, .ref sv, .ref tz, .ref az]))], aucW Y h0 ρ γ, hisW Y hh hb2 nx ct, ringW Y hb2 rr gg] (fun r sg => r = nI (ρ (5 + k)) ∧ ∃ (γ' : Nat → Nat → Nat), sg = [[(xo, .inr (4, [.ref h0, .ref h1, .ref hh, .ref sl, .ref sv, .ref tz, .ref az]))], aucW Y h0 (mOffer ρ k u v) γ', hisW Y hh hb2 (nxt nx) (min (ct + 1) 14), ringW Y hb2 (setR rr nx ρ) (setR gg nx γ)]) G Y := by
  refine x_ofI (by decide) (Nat.le_of_ble_eq_true rfl) (fun p e s m args below meth c A ls Q M hK hZ hw hl hret => ?_)
  obtain ⟨hx, hb, -⟩ := id M
  have hl : lv_has ls 5 [(0, .ref xo), (1, .int (nI k)), (2, .int (nI u)), (3, .int (nI v))] := hl
  have := hI.n6
  have := hI.over
  have := hI.keep
  have := hI.stepp
  have hok := okN_offer ht
  refine lv_aload_n hx hb dX5_offer_0 rfl (lv_at hl 0 rfl) ?_
  refine x_get M hK hw 0 0 rfl rfl ff_X5_10 rfl dX5_offer_1 ?_
  refine lv_iload_n hx hb dX5_offer_4 rfl (lv_at hl 1 rfl) ?_
  refine lv_iload_n hx hb dX5_offer_5 rfl (lv_at hl 2 rfl) ?_
  refine lv_iload_n hx hb dX5_offer_6 rfl (lv_at hl 3 rfl) ?_
  refine x_cVI (As := [.int (nI k), .int (nI u), .int (nI v)]) (k_X1_whyNotOffer l G Y h0 ρ γ (nI k) (nI u) (nI v) (hI)) cw_X5_177 [1] 1 0 M hK hZ hw hl.1 rfl (by decide) rfl rfl rfl ⟨by decide, by decide⟩ ⟨Nat.zero_le _, Nat.zero_le _⟩ rfl rfl (Nat.le_of_ble_eq_true rfl) dX5_offer_7 (fun r sg h_1 H locs hw => ?_)
  obtain ⟨rfl, rfl⟩ := h_1
  have hw : xW G A s.heap [[(xo, .inr (4, [.ref h0, .ref h1, .ref hh, .ref sl, .ref sv, .ref tz, .ref az]))], aucW Y h0 ρ γ, hisW Y hh hb2 nx ct, ringW Y hb2 rr gg] H locs := hw
  refine x_topN (n := 0) (congrArg nI (by have h9 := ht; unfold tOffer at h9; rw [nI_toInt g0, nI_toInt g1, nI_toInt g2]; exact h9)) ?_
  refine x_cSV (As := [.int (nI 0)]) (k_X5_refuse l G Y ) cw_X5_180 [] M hK hZ hw hl.1 rfl (by decide) ⟨by decide, by decide⟩ ⟨Nat.zero_le _, Nat.zero_le _⟩ rfl rfl (Nat.le_of_ble_eq_true rfl) dX5_offer_10 (fun sg h_2 H locs hw => ?_)
  obtain rfl := h_2
  have hw : xW G A s.heap [[(xo, .inr (4, [.ref h0, .ref h1, .ref hh, .ref sl, .ref sv, .ref tz, .ref az]))], aucW Y h0 ρ γ, hisW Y hh hb2 nx ct, ringW Y hb2 rr gg] H locs := hw
  refine lv_aload_n hx hb dX5_offer_13 rfl (lv_at hl 0 rfl) ?_
  refine x_get M hK hw 0 0 rfl rfl ff_X5_22 rfl dX5_offer_14 ?_
  refine lv_aload_n hx hb dX5_offer_17 rfl (lv_at hl 0 rfl) ?_
  refine x_get M hK hw 0 0 rfl rfl ff_X5_10 rfl dX5_offer_18 ?_
  refine x_cVV (As := [.ref h0]) (k_X2_remember l G Y hh hb2 nx ct h0 rr gg ρ γ (hI) (by omega) (by omega)) cw_X5_183 [2, 1, 3] 2 0 M hK hZ hw hl.1 rfl (by decide) rfl rfl rfl ⟨by decide, by decide⟩ ⟨Nat.zero_le _, Nat.zero_le _⟩ rfl rfl (Nat.le_of_ble_eq_true rfl) dX5_offer_21 (fun sg h_3 H locs hw => ?_)
  obtain rfl := h_3
  have hw : xW G A s.heap [[(xo, .inr (4, [.ref h0, .ref h1, .ref hh, .ref sl, .ref sv, .ref tz, .ref az]))], aucW Y h0 ρ γ, hisW Y hh hb2 (nxt nx) (min (ct + 1) 14), ringW Y hb2 (setR rr nx ρ) (setR gg nx γ)] H locs := hw
  refine lv_aload_n hx hb dX5_offer_24 rfl (lv_at hl 0 rfl) ?_
  refine x_get M hK hw 0 0 rfl rfl ff_X5_10 rfl dX5_offer_25 ?_
  refine x_get M hK hw 1 0 rfl rfl ff_X5_117 rfl dX5_offer_28 ?_
  refine lv_iload_n hx hb dX5_offer_31 rfl (lv_at hl 1 rfl) ?_
  refine x_iald M hK hw 1 1 rfl rfl (by omega) (by decide) dX5_offer_32 ?_
  refine x_topN (n := ρ (5 + k)) (congrArg (fun q => nI (ρ q)) (by omega)) ?_
  have q_4 : 1 ≤ ρ (5 + k) := (hI.sup (k := k) (by omega) rfl).1
  have q_5 : ρ (5 + k) ≤ 9 := (hI.sup (k := k) (by omega) rfl).2
  refine lv_istore (lv' := [(4, .int (nI (ρ (5 + k)))), (0, .ref xo), (1, .int (nI k)), (2, .int (nI u)), (3, .int (nI v))]) hx hb dX5_offer_33 hl (by decide) rfl (fun ls hl => ?_)
  refine lv_aload_n hx hb dX5_offer_35 rfl (lv_at hl 1 rfl) ?_
  refine x_get M hK hw 0 0 rfl rfl ff_X5_10 rfl dX5_offer_36 ?_
  refine lv_iload_n hx hb dX5_offer_39 rfl (lv_at hl 2 rfl) ?_
  refine lv_iload_n hx hb dX5_offer_40 rfl (lv_at hl 3 rfl) ?_
  refine lv_iload_n hx hb dX5_offer_41 rfl (lv_at hl 4 rfl) ?_
  refine x_cVV (As := [.int (nI k), .int (nI u), .int (nI v)]) (k_X1_changeOffer l G Y h0 k u v ρ γ (hI) (by omega)) cw_X5_187 [1] 1 0 M hK hZ hw hl.1 rfl (by decide) rfl rfl rfl ⟨by decide, by decide⟩ ⟨Nat.zero_le _, Nat.zero_le _⟩ rfl rfl (Nat.le_of_ble_eq_true rfl) dX5_offer_42 (fun sg h_6 H locs hw => ?_)
  obtain ⟨γa7, rfl⟩ := h_6
  have hw : xW G A s.heap [[(xo, .inr (4, [.ref h0, .ref h1, .ref hh, .ref sl, .ref sv, .ref tz, .ref az]))], aucW Y h0 (mOffer ρ k u v) γa7, hisW Y hh hb2 (nxt nx) (min (ct + 1) 14), ringW Y hb2 (setR rr nx ρ) (setR gg nx γ)] H locs := hw
  refine lv_iload hx hb dX5_offer_45 (lv_at hl 0 rfl) ?_
  exact hret _ _ _ (nI (ρ (5 + k))) _ _ dX5_offer_47 hw rfl rfl ⟨rfl, γa7, rfl⟩
set_option maxHeartbeats 4000000 in
set_option maxRecDepth 20000 in
theorem k_X5_price (l : Launch) (G : va_G) (Y : Nat → Nat) (xo h0 h1 hh sl sv tz az : Nat) (hb2 nx ct : Nat) (rr : Nat → Nat → Nat) (gg : Nat → Nat → Nat → Nat) (k v : Nat) (ρ : Nat → Nat) (γ : Nat → Nat → Nat) (hI : Inv ρ) (hnx : nx < 14) (hct : ct ≤ 14) (g0 : k < 2 ^ 31) (g1 : v < 2 ^ 31) (ht : whyPrice ρ (k : Int) (v : Int) = 0) : CtI l yX5_price cX5_price 4 .int 3 102 [.ref xo, .int (nI k), .int (nI v)] [[(xo, .inr (4, [.ref h0, .ref h1, .ref hh, .ref sl, .ref sv, .ref tz, .ref az]))], aucW Y h0 ρ γ, hisW Y hh hb2 nx ct, ringW Y hb2 rr gg] (fun r sg => r = nI (ρ (11 + k)) ∧ ∃ (γ' : Nat → Nat → Nat), sg = [[(xo, .inr (4, [.ref h0, .ref h1, .ref hh, .ref sl, .ref sv, .ref tz, .ref az]))], aucW Y h0 (mPri ρ k v) γ', hisW Y hh hb2 (nxt nx) (min (ct + 1) 14), ringW Y hb2 (setR rr nx ρ) (setR gg nx γ)]) G Y := by
  refine x_ofI (by decide) (Nat.le_of_ble_eq_true rfl) (fun p e s m args below meth c A ls Q M hK hZ hw hl hret => ?_)
  obtain ⟨hx, hb, -⟩ := id M
  have hl : lv_has ls 4 [(0, .ref xo), (1, .int (nI k)), (2, .int (nI v))] := hl
  have := hI.n6
  have := hI.over
  have := hI.keep
  have := hI.stepp
  have hok := ok_price ht
  refine lv_aload_n hx hb dX5_price_0 rfl (lv_at hl 0 rfl) ?_
  refine x_get M hK hw 0 0 rfl rfl ff_X5_10 rfl dX5_price_1 ?_
  refine lv_iload_n hx hb dX5_price_4 rfl (lv_at hl 1 rfl) ?_
  refine lv_iload_n hx hb dX5_price_5 rfl (lv_at hl 2 rfl) ?_
  refine x_cVI (As := [.int (nI k), .int (nI v)]) (k_X1_whyNotPrice l G Y h0 ρ γ (nI k) (nI v) (hI)) cw_X5_191 [1] 1 0 M hK hZ hw hl.1 rfl (by decide) rfl rfl rfl ⟨by decide, by decide⟩ ⟨Nat.zero_le _, Nat.zero_le _⟩ rfl rfl (Nat.le_of_ble_eq_true rfl) dX5_price_6 (fun r sg h_1 H locs hw => ?_)
  obtain ⟨rfl, rfl⟩ := h_1
  have hw : xW G A s.heap [[(xo, .inr (4, [.ref h0, .ref h1, .ref hh, .ref sl, .ref sv, .ref tz, .ref az]))], aucW Y h0 ρ γ, hisW Y hh hb2 nx ct, ringW Y hb2 rr gg] H locs := hw
  refine x_topN (n := 0) (congrArg nI (by have h9 := ht; rw [nI_toInt g0, nI_toInt g1]; exact h9)) ?_
  refine x_cSV (As := [.int (nI 0)]) (k_X5_refuse l G Y ) cw_X5_180 [] M hK hZ hw hl.1 rfl (by decide) ⟨by decide, by decide⟩ ⟨Nat.zero_le _, Nat.zero_le _⟩ rfl rfl (Nat.le_of_ble_eq_true rfl) dX5_price_9 (fun sg h_2 H locs hw => ?_)
  obtain rfl := h_2
  have hw : xW G A s.heap [[(xo, .inr (4, [.ref h0, .ref h1, .ref hh, .ref sl, .ref sv, .ref tz, .ref az]))], aucW Y h0 ρ γ, hisW Y hh hb2 nx ct, ringW Y hb2 rr gg] H locs := hw
  refine lv_aload_n hx hb dX5_price_12 rfl (lv_at hl 0 rfl) ?_
  refine x_get M hK hw 0 0 rfl rfl ff_X5_22 rfl dX5_price_13 ?_
  refine lv_aload_n hx hb dX5_price_16 rfl (lv_at hl 0 rfl) ?_
  refine x_get M hK hw 0 0 rfl rfl ff_X5_10 rfl dX5_price_17 ?_
  refine x_cVV (As := [.ref h0]) (k_X2_remember l G Y hh hb2 nx ct h0 rr gg ρ γ (hI) (by omega) (by omega)) cw_X5_183 [2, 1, 3] 2 0 M hK hZ hw hl.1 rfl (by decide) rfl rfl rfl ⟨by decide, by decide⟩ ⟨Nat.zero_le _, Nat.zero_le _⟩ rfl rfl (Nat.le_of_ble_eq_true rfl) dX5_price_20 (fun sg h_3 H locs hw => ?_)
  obtain rfl := h_3
  have hw : xW G A s.heap [[(xo, .inr (4, [.ref h0, .ref h1, .ref hh, .ref sl, .ref sv, .ref tz, .ref az]))], aucW Y h0 ρ γ, hisW Y hh hb2 (nxt nx) (min (ct + 1) 14), ringW Y hb2 (setR rr nx ρ) (setR gg nx γ)] H locs := hw
  refine lv_aload_n hx hb dX5_price_23 rfl (lv_at hl 0 rfl) ?_
  refine x_get M hK hw 0 0 rfl rfl ff_X5_10 rfl dX5_price_24 ?_
  refine x_get M hK hw 1 0 rfl rfl ff_X5_124 rfl dX5_price_27 ?_
  refine lv_iload_n hx hb dX5_price_30 rfl (lv_at hl 1 rfl) ?_
  refine x_iald M hK hw 1 3 rfl rfl (by omega) (by decide) dX5_price_31 ?_
  refine x_topN (n := ρ (11 + k)) (congrArg (fun q => nI (ρ q)) (by omega)) ?_
  have q_4 : 1 ≤ ρ (11 + k) := (hI.pri (k := k) (by omega) rfl).1
  have q_5 : ρ (11 + k) ≤ 99999 := (hI.pri (k := k) (by omega) rfl).2
  refine lv_istore_n (lv' := [(3, .int (nI (ρ (11 + k)))), (0, .ref xo), (1, .int (nI k)), (2, .int (nI v))]) hx hb dX5_price_32 rfl hl (by decide) rfl (fun ls hl => ?_)
  refine lv_aload_n hx hb dX5_price_33 rfl (lv_at hl 1 rfl) ?_
  refine x_get M hK hw 0 0 rfl rfl ff_X5_10 rfl dX5_price_34 ?_
  refine x_get M hK hw 1 0 rfl rfl ff_X5_124 rfl dX5_price_37 ?_
  refine lv_iload_n hx hb dX5_price_40 rfl (lv_at hl 2 rfl) ?_
  refine lv_iload_n hx hb dX5_price_41 rfl (lv_at hl 3 rfl) ?_
  refine x_iast M hK hw 1 3 rfl rfl (by omega) (by decide) dX5_price_42 (fun H locs hw => ?_)
  rw [upd_row] at hw
  have hw : xW G A s.heap [[(xo, .inr (4, [.ref h0, .ref h1, .ref hh, .ref sl, .ref sv, .ref tz, .ref az]))], aucR Y h0 (supF ρ) (ptsF ρ) (setN (priF ρ) k v) (rgtF ρ γ) (capF ρ γ) (pckF ρ γ) (valF ρ γ) (demF ρ γ) (lotF ρ γ) (worF ρ γ) (ρ 4) (ρ 0) (ρ 1) (ρ 2) (ρ 3), hisW Y hh hb2 (nxt nx) (min (ct + 1) 14), ringW Y hb2 (setR rr nx ρ) (setR gg nx γ)] H locs := hw
  refine lv_iload_n hx hb dX5_price_43 rfl (lv_at hl 0 rfl) ?_
  have hN6 : (mPri ρ k v) 4 = ρ 4 := by clear hret hw hl M hK hZ hx hb; simp only [mPri, setN, if_true, if_false, reduceIte] <;> (repeat' split) <;> first | rfl | (exfalso; omega) | omega
  obtain ⟨γ7, hw⟩ := auc_fold (i := 1) (ρ' := mPri ρ k v) hw rfl hN6.symm (by clear hret hw hl M hK hZ hx hb; simp only [mPri, setN, if_true, if_false, reduceIte] <;> (repeat' split) <;> first | rfl | (exfalso; omega) | omega) (by clear hret hw hl M hK hZ hx hb; simp only [mPri, setN, if_true, if_false, reduceIte] <;> (repeat' split) <;> first | rfl | (exfalso; omega) | omega) (by clear hret hw hl M hK hZ hx hb; simp only [mPri, setN, if_true, if_false, reduceIte] <;> (repeat' split) <;> first | rfl | (exfalso; omega) | omega) (by clear hret hw hl M hK hZ hx hb; simp only [mPri, setN, if_true, if_false, reduceIte] <;> (repeat' split) <;> first | rfl | (exfalso; omega) | omega) (by clear hret hw hl M hK hZ hx hb; intro k9 hk9; (try simp only [mPri, setN, if_true, if_false, reduceIte, supF]) <;> (repeat' split) <;> first | rfl | (exfalso; omega) | omega) (by clear hret hw hl M hK hZ hx hb; intro k9 hk9; (try simp only [mPri, setN, if_true, if_false, reduceIte, ptsF]) <;> (repeat' split) <;> first | rfl | (exfalso; omega) | omega) (by clear hret hw hl M hK hZ hx hb; intro k9 hk9; (try simp only [mPri, setN, if_true, if_false, reduceIte, priF]) <;> (repeat' split) <;> first | rfl | (exfalso; omega) | omega) (by clear hret hw hl M hK hZ hx hb; intro b9 hb1; rw [hN6] at hb1; (try simp only [mPri, setN, if_true, if_false, reduceIte]) <;> (repeat' split) <;> first | rfl | (exfalso; omega) | exact rgt_at (by omega) rfl rfl | omega) (by clear hret hw hl M hK hZ hx hb; intro b9 hb1; rw [hN6] at hb1; (try simp only [mPri, setN, if_true, if_false, reduceIte]) <;> (repeat' split) <;> first | rfl | (exfalso; omega) | exact cap_at (by omega) rfl rfl | omega) (by clear hret hw hl M hK hZ hx hb; intro b9 hb1; rw [hN6] at hb1; (try simp only [mPri, setN, if_true, if_false, reduceIte]) <;> (repeat' split) <;> first | rfl | (exfalso; omega) | exact pck_at (by omega) rfl rfl | omega) (by clear hret hw hl M hK hZ hx hb; intro b9 k9 hb1 hk9; rw [hN6] at hb1; (try simp only [mPri, setN, if_true, if_false, reduceIte]) <;> (repeat' split) <;> first | rfl | (exfalso; omega) | exact val_at (by omega) (by omega) rfl rfl | omega) (by clear hret hw hl M hK hZ hx hb; intro b9 k9 hb1 hk9; rw [hN6] at hb1; (try simp only [mPri, setN, if_true, if_false, reduceIte]) <;> (repeat' split) <;> first | rfl | (exfalso; omega) | exact dem_at (by omega) (by omega) rfl rfl | omega) (by clear hret hw hl M hK hZ hx hb; intro b9 i9 k9 hb1 hi9 h39 hk9; rw [hN6] at hb1; simp only [mPri, setN, if_true, if_false, reduceIte] at hi9; (try simp only [mPri, setN, if_true, if_false, reduceIte]) <;> (repeat' split at hi9) <;> (repeat' split) <;> first | rfl | (exfalso; omega) | exact lot_at (by omega) (by omega) (by omega) (by omega) rfl rfl | omega) (by clear hret hw hl M hK hZ hx hb; intro b9 i9 hb1 hi9 h39; rw [hN6] at hb1; simp only [mPri, setN, if_true, if_false, reduceIte] at hi9; (try simp only [mPri, setN, if_true, if_false, reduceIte]) <;> (repeat' split at hi9) <;> (repeat' split) <;> first | rfl | (exfalso; omega) | exact wor_at (by omega) (by omega) (by omega) rfl rfl | omega)
  have hw : xW G A s.heap [[(xo, .inr (4, [.ref h0, .ref h1, .ref hh, .ref sl, .ref sv, .ref tz, .ref az]))], aucW Y h0 (mPri ρ k v) γ7, hisW Y hh hb2 (nxt nx) (min (ct + 1) 14), ringW Y hb2 (setR rr nx ρ) (setR gg nx γ)] H locs := hw
  exact hret _ _ _ (nI (ρ (11 + k))) _ _ dX5_price_44 hw rfl rfl ⟨rfl, γ7, rfl⟩
set_option maxHeartbeats 4000000 in
set_option maxRecDepth 20000 in
theorem k_X5_value (l : Launch) (G : va_G) (Y : Nat → Nat) (xo h0 h1 hh sl sv tz az : Nat) (hb2 nx ct : Nat) (rr : Nat → Nat → Nat) (gg : Nat → Nat → Nat → Nat) (b k v : Nat) (ρ : Nat → Nat) (γ : Nat → Nat → Nat) (hI : Inv ρ) (hnx : nx < 14) (hct : ct ≤ 14) (g0 : b < 2 ^ 31) (g1 : k < 2 ^ 31) (g2 : v < 2 ^ 31) (ht : tVal ρ b k v = 0) : CtI l yX5_value cX5_value 5 .int 3 102 [.ref xo, .int (nI b), .int (nI k), .int (nI v)] [[(xo, .inr (4, [.ref h0, .ref h1, .ref hh, .ref sl, .ref sv, .ref tz, .ref az]))], aucW Y h0 ρ γ, hisW Y hh hb2 nx ct, ringW Y hb2 rr gg] (fun r sg => r = nI (ρ (16 + 21 * b + k)) ∧ ∃ (γ' : Nat → Nat → Nat), sg = [[(xo, .inr (4, [.ref h0, .ref h1, .ref hh, .ref sl, .ref sv, .ref tz, .ref az]))], aucW Y h0 (mVal ρ b k v) γ', hisW Y hh hb2 (nxt nx) (min (ct + 1) 14), ringW Y hb2 (setR rr nx ρ) (setR gg nx γ)]) G Y := by
  refine x_ofI (by decide) (Nat.le_of_ble_eq_true rfl) (fun p e s m args below meth c A ls Q M hK hZ hw hl hret => ?_)
  obtain ⟨hx, hb, -⟩ := id M
  have hl : lv_has ls 5 [(0, .ref xo), (1, .int (nI b)), (2, .int (nI k)), (3, .int (nI v))] := hl
  have := hI.n6
  have := hI.over
  have := hI.keep
  have := hI.stepp
  have hok := okN_value ht
  refine lv_aload_n hx hb dX5_value_0 rfl (lv_at hl 0 rfl) ?_
  refine x_get M hK hw 0 0 rfl rfl ff_X5_10 rfl dX5_value_1 ?_
  refine lv_iload_n hx hb dX5_value_4 rfl (lv_at hl 1 rfl) ?_
  refine lv_iload_n hx hb dX5_value_5 rfl (lv_at hl 2 rfl) ?_
  refine lv_iload_n hx hb dX5_value_6 rfl (lv_at hl 3 rfl) ?_
  refine x_cVI (As := [.int (nI b), .int (nI k), .int (nI v)]) (k_X1_whyNotValue l G Y h0 ρ γ (nI b) (nI k) (nI v) (hI)) cw_X5_201 [1] 1 0 M hK hZ hw hl.1 rfl (by decide) rfl rfl rfl ⟨by decide, by decide⟩ ⟨Nat.zero_le _, Nat.zero_le _⟩ rfl rfl (Nat.le_of_ble_eq_true rfl) dX5_value_7 (fun r sg h_1 H locs hw => ?_)
  obtain ⟨rfl, rfl⟩ := h_1
  have hw : xW G A s.heap [[(xo, .inr (4, [.ref h0, .ref h1, .ref hh, .ref sl, .ref sv, .ref tz, .ref az]))], aucW Y h0 ρ γ, hisW Y hh hb2 nx ct, ringW Y hb2 rr gg] H locs := hw
  refine x_topN (n := 0) (congrArg nI (by have h9 := ht; unfold tVal at h9; rw [nI_toInt g0, nI_toInt g1, nI_toInt g2]; exact h9)) ?_
  refine x_cSV (As := [.int (nI 0)]) (k_X5_refuse l G Y ) cw_X5_180 [] M hK hZ hw hl.1 rfl (by decide) ⟨by decide, by decide⟩ ⟨Nat.zero_le _, Nat.zero_le _⟩ rfl rfl (Nat.le_of_ble_eq_true rfl) dX5_value_10 (fun sg h_2 H locs hw => ?_)
  obtain rfl := h_2
  have hw : xW G A s.heap [[(xo, .inr (4, [.ref h0, .ref h1, .ref hh, .ref sl, .ref sv, .ref tz, .ref az]))], aucW Y h0 ρ γ, hisW Y hh hb2 nx ct, ringW Y hb2 rr gg] H locs := hw
  refine lv_aload_n hx hb dX5_value_13 rfl (lv_at hl 0 rfl) ?_
  refine x_get M hK hw 0 0 rfl rfl ff_X5_22 rfl dX5_value_14 ?_
  refine lv_aload_n hx hb dX5_value_17 rfl (lv_at hl 0 rfl) ?_
  refine x_get M hK hw 0 0 rfl rfl ff_X5_10 rfl dX5_value_18 ?_
  refine x_cVV (As := [.ref h0]) (k_X2_remember l G Y hh hb2 nx ct h0 rr gg ρ γ (hI) (by omega) (by omega)) cw_X5_183 [2, 1, 3] 2 0 M hK hZ hw hl.1 rfl (by decide) rfl rfl rfl ⟨by decide, by decide⟩ ⟨Nat.zero_le _, Nat.zero_le _⟩ rfl rfl (Nat.le_of_ble_eq_true rfl) dX5_value_21 (fun sg h_3 H locs hw => ?_)
  obtain rfl := h_3
  have hw : xW G A s.heap [[(xo, .inr (4, [.ref h0, .ref h1, .ref hh, .ref sl, .ref sv, .ref tz, .ref az]))], aucW Y h0 ρ γ, hisW Y hh hb2 (nxt nx) (min (ct + 1) 14), ringW Y hb2 (setR rr nx ρ) (setR gg nx γ)] H locs := hw
  refine lv_aload_n hx hb dX5_value_24 rfl (lv_at hl 0 rfl) ?_
  refine x_get M hK hw 0 0 rfl rfl ff_X5_10 rfl dX5_value_25 ?_
  refine x_get M hK hw 1 0 rfl rfl ff_X5_204 rfl dX5_value_28 ?_
  refine lv_iload_n hx hb dX5_value_31 rfl (lv_at hl 1 rfl) ?_
  refine lv_iload_n hx hb dX5_value_32 rfl (lv_at hl 2 rfl) ?_
  refine x_cSI (As := [.int (nI b), .int (nI k)]) (k_X5_cell l G Y b k) cw_X5_156 [] M hK hZ hw hl.1 rfl (by decide) ⟨by decide, by decide⟩ ⟨Nat.zero_le _, Nat.zero_le _⟩ rfl rfl (Nat.le_of_ble_eq_true rfl) dX5_value_33 (fun r sg h_4 H locs hw => ?_)
  obtain ⟨rfl, rfl⟩ := h_4
  have hw : xW G A s.heap [[(xo, .inr (4, [.ref h0, .ref h1, .ref hh, .ref sl, .ref sv, .ref tz, .ref az]))], aucW Y h0 ρ γ, hisW Y hh hb2 (nxt nx) (min (ct + 1) 14), ringW Y hb2 (setR rr nx ρ) (setR gg nx γ)] H locs := hw
  refine x_iald M hK hw 1 7 rfl rfl (by omega) (by decide) dX5_value_36 ?_
  refine x_topN (n := ρ (16 + 21 * b + k)) (congrArg nI (val_at (j := b) (k := k) (by omega) (by omega) (by omega) (by omega))) ?_
  have q_5 : ρ (16 + 21 * b + k) ≤ 99999 := hI.val (j := b) (by omega) (k := k) (by omega) (by omega)
  refine lv_istore (lv' := [(4, .int (nI (ρ (16 + 21 * b + k)))), (0, .ref xo), (1, .int (nI b)), (2, .int (nI k)), (3, .int (nI v))]) hx hb dX5_value_37 hl (by decide) rfl (fun ls hl => ?_)
  refine lv_aload_n hx hb dX5_value_39 rfl (lv_at hl 1 rfl) ?_
  refine x_get M hK hw 0 0 rfl rfl ff_X5_10 rfl dX5_value_40 ?_
  refine x_get M hK hw 1 0 rfl rfl ff_X5_204 rfl dX5_value_43 ?_
  refine lv_iload_n hx hb dX5_value_46 rfl (lv_at hl 2 rfl) ?_
  refine lv_iload_n hx hb dX5_value_47 rfl (lv_at hl 3 rfl) ?_
  refine x_cSI (As := [.int (nI b), .int (nI k)]) (k_X5_cell l G Y b k) cw_X5_156 [] M hK hZ hw hl.1 rfl (by decide) ⟨by decide, by decide⟩ ⟨Nat.zero_le _, Nat.zero_le _⟩ rfl rfl (Nat.le_of_ble_eq_true rfl) dX5_value_48 (fun r sg h_6 H locs hw => ?_)
  obtain ⟨rfl, rfl⟩ := h_6
  have hw : xW G A s.heap [[(xo, .inr (4, [.ref h0, .ref h1, .ref hh, .ref sl, .ref sv, .ref tz, .ref az]))], aucW Y h0 ρ γ, hisW Y hh hb2 (nxt nx) (min (ct + 1) 14), ringW Y hb2 (setR rr nx ρ) (setR gg nx γ)] H locs := hw
  refine lv_iload_n hx hb dX5_value_51 rfl (lv_at hl 4 rfl) ?_
  refine x_iast M hK hw 1 7 rfl rfl (by omega) (by decide) dX5_value_52 (fun H locs hw => ?_)
  rw [upd_row] at hw
  have hw : xW G A s.heap [[(xo, .inr (4, [.ref h0, .ref h1, .ref hh, .ref sl, .ref sv, .ref tz, .ref az]))], aucR Y h0 (supF ρ) (ptsF ρ) (priF ρ) (rgtF ρ γ) (capF ρ γ) (pckF ρ γ) (setN (valF ρ γ) (3 * b + k) v) (demF ρ γ) (lotF ρ γ) (worF ρ γ) (ρ 4) (ρ 0) (ρ 1) (ρ 2) (ρ 3), hisW Y hh hb2 (nxt nx) (min (ct + 1) 14), ringW Y hb2 (setR rr nx ρ) (setR gg nx γ)] H locs := hw
  refine lv_iload hx hb dX5_value_53 (lv_at hl 0 rfl) ?_
  have hN7 : (mVal ρ b k v) 4 = ρ 4 := by clear hret hw hl M hK hZ hx hb; simp only [mVal, setN, if_true, if_false, reduceIte] <;> (repeat' split) <;> first | rfl | (exfalso; omega) | omega
  obtain ⟨γ8, hw⟩ := auc_fold (i := 1) (ρ' := mVal ρ b k v) hw rfl hN7.symm (by clear hret hw hl M hK hZ hx hb; simp only [mVal, setN, if_true, if_false, reduceIte] <;> (repeat' split) <;> first | rfl | (exfalso; omega) | omega) (by clear hret hw hl M hK hZ hx hb; simp only [mVal, setN, if_true, if_false, reduceIte] <;> (repeat' split) <;> first | rfl | (exfalso; omega) | omega) (by clear hret hw hl M hK hZ hx hb; simp only [mVal, setN, if_true, if_false, reduceIte] <;> (repeat' split) <;> first | rfl | (exfalso; omega) | omega) (by clear hret hw hl M hK hZ hx hb; simp only [mVal, setN, if_true, if_false, reduceIte] <;> (repeat' split) <;> first | rfl | (exfalso; omega) | omega) (by clear hret hw hl M hK hZ hx hb; intro k9 hk9; (try simp only [mVal, setN, if_true, if_false, reduceIte, supF]) <;> (repeat' split) <;> first | rfl | (exfalso; omega) | omega) (by clear hret hw hl M hK hZ hx hb; intro k9 hk9; (try simp only [mVal, setN, if_true, if_false, reduceIte, ptsF]) <;> (repeat' split) <;> first | rfl | (exfalso; omega) | omega) (by clear hret hw hl M hK hZ hx hb; intro k9 hk9; (try simp only [mVal, setN, if_true, if_false, reduceIte, priF]) <;> (repeat' split) <;> first | rfl | (exfalso; omega) | omega) (by clear hret hw hl M hK hZ hx hb; intro b9 hb1; rw [hN7] at hb1; rcases Nat.lt_trichotomy b9 b with q9 | q9 | q9; (rw [mVal_o hok.2.1 (by omega)]; (repeat rw [setN_n (by omega)]); exact rgt_at (by omega) rfl rfl); (subst q9; (try simp only [mVal, setN, if_true, if_false, reduceIte]) <;> (repeat' split) <;> first | rfl | (exfalso; omega) | exact rgt_at (by omega) rfl rfl | omega); (rw [mVal_o hok.2.1 (by omega)]; (repeat rw [setN_n (by omega)]); exact rgt_at (by omega) rfl rfl)) (by clear hret hw hl M hK hZ hx hb; intro b9 hb1; rw [hN7] at hb1; rcases Nat.lt_trichotomy b9 b with q9 | q9 | q9; (rw [mVal_o hok.2.1 (by omega)]; (repeat rw [setN_n (by omega)]); exact cap_at (by omega) rfl rfl); (subst q9; (try simp only [mVal, setN, if_true, if_false, reduceIte]) <;> (repeat' split) <;> first | rfl | (exfalso; omega) | exact cap_at (by omega) rfl rfl | omega); (rw [mVal_o hok.2.1 (by omega)]; (repeat rw [setN_n (by omega)]); exact cap_at (by omega) rfl rfl)) (by clear hret hw hl M hK hZ hx hb; intro b9 hb1; rw [hN7] at hb1; rcases Nat.lt_trichotomy b9 b with q9 | q9 | q9; (rw [mVal_o hok.2.1 (by omega)]; (repeat rw [setN_n (by omega)]); exact pck_at (by omega) rfl rfl); (subst q9; (try simp only [mVal, setN, if_true, if_false, reduceIte]) <;> (repeat' split) <;> first | rfl | (exfalso; omega) | exact pck_at (by omega) rfl rfl | omega); (rw [mVal_o hok.2.1 (by omega)]; (repeat rw [setN_n (by omega)]); exact pck_at (by omega) rfl rfl)) (by clear hret hw hl M hK hZ hx hb; intro b9 k9 hb1 hk9; rw [hN7] at hb1; rcases Nat.lt_trichotomy b9 b with q9 | q9 | q9; (rw [mVal_o hok.2.1 (by omega)]; (repeat rw [setN_n (by omega)]); exact val_at (by omega) (by omega) rfl rfl); (subst q9; (try simp only [mVal, setN, if_true, if_false, reduceIte]) <;> (repeat' split) <;> first | rfl | (exfalso; omega) | exact val_at (by omega) (by omega) rfl rfl | omega); (rw [mVal_o hok.2.1 (by omega)]; (repeat rw [setN_n (by omega)]); exact val_at (by omega) (by omega) rfl rfl)) (by clear hret hw hl M hK hZ hx hb; intro b9 k9 hb1 hk9; rw [hN7] at hb1; rcases Nat.lt_trichotomy b9 b with q9 | q9 | q9; (rw [mVal_o hok.2.1 (by omega)]; (repeat rw [setN_n (by omega)]); exact dem_at (by omega) (by omega) rfl rfl); (subst q9; (try simp only [mVal, setN, if_true, if_false, reduceIte]) <;> (repeat' split) <;> first | rfl | (exfalso; omega) | exact dem_at (by omega) (by omega) rfl rfl | omega); (rw [mVal_o hok.2.1 (by omega)]; (repeat rw [setN_n (by omega)]); exact dem_at (by omega) (by omega) rfl rfl)) (by clear hret hw hl M hK hZ hx hb; intro b9 i9 k9 hb1 hi9 h39 hk9; rw [hN7] at hb1; rcases Nat.lt_trichotomy b9 b with q9 | q9 | q9; (rw [mVal_o hok.2.1 (by omega)]; rw [mVal_o hok.2.1 (by omega)] at hi9; (repeat rw [setN_n (by omega)]); exact lot_at (by omega) (by omega) (by omega) (by omega) rfl rfl); (subst q9; simp only [mVal, setN, if_true, if_false, reduceIte] at hi9; (try simp only [mVal, setN, if_true, if_false, reduceIte]) <;> (repeat' split at hi9) <;> (repeat' split) <;> first | rfl | (exfalso; omega) | exact lot_at (by omega) (by omega) (by omega) (by omega) rfl rfl | omega); (rw [mVal_o hok.2.1 (by omega)]; rw [mVal_o hok.2.1 (by omega)] at hi9; (repeat rw [setN_n (by omega)]); exact lot_at (by omega) (by omega) (by omega) (by omega) rfl rfl)) (by clear hret hw hl M hK hZ hx hb; intro b9 i9 hb1 hi9 h39; rw [hN7] at hb1; rcases Nat.lt_trichotomy b9 b with q9 | q9 | q9; (rw [mVal_o hok.2.1 (by omega)]; rw [mVal_o hok.2.1 (by omega)] at hi9; (repeat rw [setN_n (by omega)]); exact wor_at (by omega) (by omega) (by omega) rfl rfl); (subst q9; simp only [mVal, setN, if_true, if_false, reduceIte] at hi9; (try simp only [mVal, setN, if_true, if_false, reduceIte]) <;> (repeat' split at hi9) <;> (repeat' split) <;> first | rfl | (exfalso; omega) | exact wor_at (by omega) (by omega) (by omega) rfl rfl | omega); (rw [mVal_o hok.2.1 (by omega)]; rw [mVal_o hok.2.1 (by omega)] at hi9; (repeat rw [setN_n (by omega)]); exact wor_at (by omega) (by omega) (by omega) rfl rfl))
  have hw : xW G A s.heap [[(xo, .inr (4, [.ref h0, .ref h1, .ref hh, .ref sl, .ref sv, .ref tz, .ref az]))], aucW Y h0 (mVal ρ b k v) γ8, hisW Y hh hb2 (nxt nx) (min (ct + 1) 14), ringW Y hb2 (setR rr nx ρ) (setR gg nx γ)] H locs := hw
  exact hret _ _ _ (nI (ρ (16 + 21 * b + k))) _ _ dX5_value_55 hw rfl rfl ⟨rfl, γ8, rfl⟩
set_option maxHeartbeats 4000000 in
set_option maxRecDepth 20000 in
theorem k_X5_ask (l : Launch) (G : va_G) (Y : Nat → Nat) (xo h0 h1 hh sl sv tz az : Nat) (hb2 nx ct : Nat) (rr : Nat → Nat → Nat) (gg : Nat → Nat → Nat → Nat) (b k n : Nat) (ρ : Nat → Nat) (γ : Nat → Nat → Nat) (hI : Inv ρ) (hnx : nx < 14) (hct : ct ≤ 14) (g0 : b < 2 ^ 31) (g1 : k < 2 ^ 31) (g2 : n < 2 ^ 31) (ht : tAsk ρ b k n = 0) : CtI l yX5_ask cX5_ask 4 .int 3 102 [.ref xo, .int (nI b), .int (nI k), .int (nI n)] [[(xo, .inr (4, [.ref h0, .ref h1, .ref hh, .ref sl, .ref sv, .ref tz, .ref az]))], aucW Y h0 ρ γ, hisW Y hh hb2 nx ct, ringW Y hb2 rr gg] (fun r sg => r = nI (act (mAsk ρ b k n) b) ∧ ∃ (γ' : Nat → Nat → Nat), sg = [[(xo, .inr (4, [.ref h0, .ref h1, .ref hh, .ref sl, .ref sv, .ref tz, .ref az]))], aucW Y h0 (mAsk ρ b k n) γ', hisW Y hh hb2 (nxt nx) (min (ct + 1) 14), ringW Y hb2 (setR rr nx ρ) (setR gg nx γ)]) G Y := by
  refine x_ofI (by decide) (Nat.le_of_ble_eq_true rfl) (fun p e s m args below meth c A ls Q M hK hZ hw hl hret => ?_)
  obtain ⟨hx, hb, -⟩ := id M
  have hl : lv_has ls 4 [(0, .ref xo), (1, .int (nI b)), (2, .int (nI k)), (3, .int (nI n))] := hl
  have := hI.n6
  have := hI.over
  have := hI.keep
  have := hI.stepp
  have hok := okN_ask ht
  refine lv_aload_n hx hb dX5_ask_0 rfl (lv_at hl 0 rfl) ?_
  refine x_get M hK hw 0 0 rfl rfl ff_X5_10 rfl dX5_ask_1 ?_
  refine lv_iload_n hx hb dX5_ask_4 rfl (lv_at hl 1 rfl) ?_
  refine lv_iload_n hx hb dX5_ask_5 rfl (lv_at hl 2 rfl) ?_
  refine lv_iload_n hx hb dX5_ask_6 rfl (lv_at hl 3 rfl) ?_
  refine x_cVI (As := [.int (nI b), .int (nI k), .int (nI n)]) (k_X1_whyNotAsk l G Y h0 ρ γ (nI b) (nI k) (nI n) (hI)) cw_X5_207 [1] 1 0 M hK hZ hw hl.1 rfl (by decide) rfl rfl rfl ⟨by decide, by decide⟩ ⟨Nat.zero_le _, Nat.zero_le _⟩ rfl rfl (Nat.le_of_ble_eq_true rfl) dX5_ask_7 (fun r sg h_1 H locs hw => ?_)
  obtain ⟨rfl, rfl⟩ := h_1
  have hw : xW G A s.heap [[(xo, .inr (4, [.ref h0, .ref h1, .ref hh, .ref sl, .ref sv, .ref tz, .ref az]))], aucW Y h0 ρ γ, hisW Y hh hb2 nx ct, ringW Y hb2 rr gg] H locs := hw
  refine x_topN (n := 0) (congrArg nI (by have h9 := ht; unfold tAsk at h9; rw [nI_toInt g0, nI_toInt g1, nI_toInt g2]; exact h9)) ?_
  refine x_cSV (As := [.int (nI 0)]) (k_X5_refuse l G Y ) cw_X5_180 [] M hK hZ hw hl.1 rfl (by decide) ⟨by decide, by decide⟩ ⟨Nat.zero_le _, Nat.zero_le _⟩ rfl rfl (Nat.le_of_ble_eq_true rfl) dX5_ask_10 (fun sg h_2 H locs hw => ?_)
  obtain rfl := h_2
  have hw : xW G A s.heap [[(xo, .inr (4, [.ref h0, .ref h1, .ref hh, .ref sl, .ref sv, .ref tz, .ref az]))], aucW Y h0 ρ γ, hisW Y hh hb2 nx ct, ringW Y hb2 rr gg] H locs := hw
  refine lv_aload_n hx hb dX5_ask_13 rfl (lv_at hl 0 rfl) ?_
  refine x_get M hK hw 0 0 rfl rfl ff_X5_22 rfl dX5_ask_14 ?_
  refine lv_aload_n hx hb dX5_ask_17 rfl (lv_at hl 0 rfl) ?_
  refine x_get M hK hw 0 0 rfl rfl ff_X5_10 rfl dX5_ask_18 ?_
  refine x_cVV (As := [.ref h0]) (k_X2_remember l G Y hh hb2 nx ct h0 rr gg ρ γ (hI) (by omega) (by omega)) cw_X5_183 [2, 1, 3] 2 0 M hK hZ hw hl.1 rfl (by decide) rfl rfl rfl ⟨by decide, by decide⟩ ⟨Nat.zero_le _, Nat.zero_le _⟩ rfl rfl (Nat.le_of_ble_eq_true rfl) dX5_ask_21 (fun sg h_3 H locs hw => ?_)
  obtain rfl := h_3
  have hw : xW G A s.heap [[(xo, .inr (4, [.ref h0, .ref h1, .ref hh, .ref sl, .ref sv, .ref tz, .ref az]))], aucW Y h0 ρ γ, hisW Y hh hb2 (nxt nx) (min (ct + 1) 14), ringW Y hb2 (setR rr nx ρ) (setR gg nx γ)] H locs := hw
  refine lv_aload_n hx hb dX5_ask_24 rfl (lv_at hl 0 rfl) ?_
  refine x_get M hK hw 0 0 rfl rfl ff_X5_10 rfl dX5_ask_25 ?_
  refine x_get M hK hw 1 0 rfl rfl ff_X5_153 rfl dX5_ask_28 ?_
  refine lv_iload_n hx hb dX5_ask_31 rfl (lv_at hl 1 rfl) ?_
  refine lv_iload_n hx hb dX5_ask_32 rfl (lv_at hl 2 rfl) ?_
  refine x_cSI (As := [.int (nI b), .int (nI k)]) (k_X5_cell l G Y b k) cw_X5_156 [] M hK hZ hw hl.1 rfl (by decide) ⟨by decide, by decide⟩ ⟨Nat.zero_le _, Nat.zero_le _⟩ rfl rfl (Nat.le_of_ble_eq_true rfl) dX5_ask_33 (fun r sg h_4 H locs hw => ?_)
  obtain ⟨rfl, rfl⟩ := h_4
  have hw : xW G A s.heap [[(xo, .inr (4, [.ref h0, .ref h1, .ref hh, .ref sl, .ref sv, .ref tz, .ref az]))], aucW Y h0 ρ γ, hisW Y hh hb2 (nxt nx) (min (ct + 1) 14), ringW Y hb2 (setR rr nx ρ) (setR gg nx γ)] H locs := hw
  refine lv_iload_n hx hb dX5_ask_36 rfl (lv_at hl 3 rfl) ?_
  refine x_iast M hK hw 1 8 rfl rfl (by omega) (by decide) dX5_ask_37 (fun H locs hw => ?_)
  rw [upd_row] at hw
  have hw : xW G A s.heap [[(xo, .inr (4, [.ref h0, .ref h1, .ref hh, .ref sl, .ref sv, .ref tz, .ref az]))], aucR Y h0 (supF ρ) (ptsF ρ) (priF ρ) (rgtF ρ γ) (capF ρ γ) (pckF ρ γ) (valF ρ γ) (setN (demF ρ γ) (3 * b + k) n) (lotF ρ γ) (worF ρ γ) (ρ 4) (ρ 0) (ρ 1) (ρ 2) (ρ 3), hisW Y hh hb2 (nxt nx) (min (ct + 1) 14), ringW Y hb2 (setR rr nx ρ) (setR gg nx γ)] H locs := hw
  have hN5 : (mAsk ρ b k n) 4 = ρ 4 := by clear hret hw hl M hK hZ hx hb; simp only [mAsk, setN, if_true, if_false, reduceIte] <;> (repeat' split) <;> first | rfl | (exfalso; omega) | omega
  obtain ⟨γ6, hw⟩ := auc_fold (i := 1) (ρ' := mAsk ρ b k n) hw rfl hN5.symm (by clear hret hw hl M hK hZ hx hb; simp only [mAsk, setN, if_true, if_false, reduceIte] <;> (repeat' split) <;> first | rfl | (exfalso; omega) | omega) (by clear hret hw hl M hK hZ hx hb; simp only [mAsk, setN, if_true, if_false, reduceIte] <;> (repeat' split) <;> first | rfl | (exfalso; omega) | omega) (by clear hret hw hl M hK hZ hx hb; simp only [mAsk, setN, if_true, if_false, reduceIte] <;> (repeat' split) <;> first | rfl | (exfalso; omega) | omega) (by clear hret hw hl M hK hZ hx hb; simp only [mAsk, setN, if_true, if_false, reduceIte] <;> (repeat' split) <;> first | rfl | (exfalso; omega) | omega) (by clear hret hw hl M hK hZ hx hb; intro k9 hk9; (try simp only [mAsk, setN, if_true, if_false, reduceIte, supF]) <;> (repeat' split) <;> first | rfl | (exfalso; omega) | omega) (by clear hret hw hl M hK hZ hx hb; intro k9 hk9; (try simp only [mAsk, setN, if_true, if_false, reduceIte, ptsF]) <;> (repeat' split) <;> first | rfl | (exfalso; omega) | omega) (by clear hret hw hl M hK hZ hx hb; intro k9 hk9; (try simp only [mAsk, setN, if_true, if_false, reduceIte, priF]) <;> (repeat' split) <;> first | rfl | (exfalso; omega) | omega) (by clear hret hw hl M hK hZ hx hb; intro b9 hb1; rw [hN5] at hb1; rcases Nat.lt_trichotomy b9 b with q9 | q9 | q9; (rw [mAsk_o hok.2.1 (by omega)]; (repeat rw [setN_n (by omega)]); exact rgt_at (by omega) rfl rfl); (subst q9; (try simp only [mAsk, setN, if_true, if_false, reduceIte]) <;> (repeat' split) <;> first | rfl | (exfalso; omega) | exact rgt_at (by omega) rfl rfl | omega); (rw [mAsk_o hok.2.1 (by omega)]; (repeat rw [setN_n (by omega)]); exact rgt_at (by omega) rfl rfl)) (by clear hret hw hl M hK hZ hx hb; intro b9 hb1; rw [hN5] at hb1; rcases Nat.lt_trichotomy b9 b with q9 | q9 | q9; (rw [mAsk_o hok.2.1 (by omega)]; (repeat rw [setN_n (by omega)]); exact cap_at (by omega) rfl rfl); (subst q9; (try simp only [mAsk, setN, if_true, if_false, reduceIte]) <;> (repeat' split) <;> first | rfl | (exfalso; omega) | exact cap_at (by omega) rfl rfl | omega); (rw [mAsk_o hok.2.1 (by omega)]; (repeat rw [setN_n (by omega)]); exact cap_at (by omega) rfl rfl)) (by clear hret hw hl M hK hZ hx hb; intro b9 hb1; rw [hN5] at hb1; rcases Nat.lt_trichotomy b9 b with q9 | q9 | q9; (rw [mAsk_o hok.2.1 (by omega)]; (repeat rw [setN_n (by omega)]); exact pck_at (by omega) rfl rfl); (subst q9; (try simp only [mAsk, setN, if_true, if_false, reduceIte]) <;> (repeat' split) <;> first | rfl | (exfalso; omega) | exact pck_at (by omega) rfl rfl | omega); (rw [mAsk_o hok.2.1 (by omega)]; (repeat rw [setN_n (by omega)]); exact pck_at (by omega) rfl rfl)) (by clear hret hw hl M hK hZ hx hb; intro b9 k9 hb1 hk9; rw [hN5] at hb1; rcases Nat.lt_trichotomy b9 b with q9 | q9 | q9; (rw [mAsk_o hok.2.1 (by omega)]; (repeat rw [setN_n (by omega)]); exact val_at (by omega) (by omega) rfl rfl); (subst q9; (try simp only [mAsk, setN, if_true, if_false, reduceIte]) <;> (repeat' split) <;> first | rfl | (exfalso; omega) | exact val_at (by omega) (by omega) rfl rfl | omega); (rw [mAsk_o hok.2.1 (by omega)]; (repeat rw [setN_n (by omega)]); exact val_at (by omega) (by omega) rfl rfl)) (by clear hret hw hl M hK hZ hx hb; intro b9 k9 hb1 hk9; rw [hN5] at hb1; rcases Nat.lt_trichotomy b9 b with q9 | q9 | q9; (rw [mAsk_o hok.2.1 (by omega)]; (repeat rw [setN_n (by omega)]); exact dem_at (by omega) (by omega) rfl rfl); (subst q9; (try simp only [mAsk, setN, if_true, if_false, reduceIte]) <;> (repeat' split) <;> first | rfl | (exfalso; omega) | exact dem_at (by omega) (by omega) rfl rfl | omega); (rw [mAsk_o hok.2.1 (by omega)]; (repeat rw [setN_n (by omega)]); exact dem_at (by omega) (by omega) rfl rfl)) (by clear hret hw hl M hK hZ hx hb; intro b9 i9 k9 hb1 hi9 h39 hk9; rw [hN5] at hb1; rcases Nat.lt_trichotomy b9 b with q9 | q9 | q9; (rw [mAsk_o hok.2.1 (by omega)]; rw [mAsk_o hok.2.1 (by omega)] at hi9; (repeat rw [setN_n (by omega)]); exact lot_at (by omega) (by omega) (by omega) (by omega) rfl rfl); (subst q9; simp only [mAsk, setN, if_true, if_false, reduceIte] at hi9; (try simp only [mAsk, setN, if_true, if_false, reduceIte]) <;> (repeat' split at hi9) <;> (repeat' split) <;> first | rfl | (exfalso; omega) | exact lot_at (by omega) (by omega) (by omega) (by omega) rfl rfl | omega); (rw [mAsk_o hok.2.1 (by omega)]; rw [mAsk_o hok.2.1 (by omega)] at hi9; (repeat rw [setN_n (by omega)]); exact lot_at (by omega) (by omega) (by omega) (by omega) rfl rfl)) (by clear hret hw hl M hK hZ hx hb; intro b9 i9 hb1 hi9 h39; rw [hN5] at hb1; rcases Nat.lt_trichotomy b9 b with q9 | q9 | q9; (rw [mAsk_o hok.2.1 (by omega)]; rw [mAsk_o hok.2.1 (by omega)] at hi9; (repeat rw [setN_n (by omega)]); exact wor_at (by omega) (by omega) (by omega) rfl rfl); (subst q9; simp only [mAsk, setN, if_true, if_false, reduceIte] at hi9; (try simp only [mAsk, setN, if_true, if_false, reduceIte]) <;> (repeat' split at hi9) <;> (repeat' split) <;> first | rfl | (exfalso; omega) | exact wor_at (by omega) (by omega) (by omega) rfl rfl | omega); (rw [mAsk_o hok.2.1 (by omega)]; rw [mAsk_o hok.2.1 (by omega)] at hi9; (repeat rw [setN_n (by omega)]); exact wor_at (by omega) (by omega) (by omega) rfl rfl))
  have hw : xW G A s.heap [[(xo, .inr (4, [.ref h0, .ref h1, .ref hh, .ref sl, .ref sv, .ref tz, .ref az]))], aucW Y h0 (mAsk ρ b k n) γ6, hisW Y hh hb2 (nxt nx) (min (ct + 1) 14), ringW Y hb2 (setR rr nx ρ) (setR gg nx γ)] H locs := hw
  have hI2 := Inv_ask (n := n) hI hok.1 hok.2.1 hok.2.2
  have e4 : mAsk ρ b k n 4 = ρ 4 := setN_n (by omega)
  refine lv_aload_n hx hb dX5_ask_38 rfl (lv_at hl 0 rfl) ?_
  refine x_get M hK hw 0 0 rfl rfl ff_X5_10 rfl dX5_ask_39 ?_
  refine lv_iload_n hx hb dX5_ask_42 rfl (lv_at hl 1 rfl) ?_
  refine x_cVI (As := [.int (nI b)]) (k_X1_activity l G Y h0 b (mAsk ρ b k n) γ6 (hI2) (by omega)) cw_X5_142 [1] 1 0 M hK hZ hw hl.1 rfl (by decide) rfl rfl rfl ⟨by decide, by decide⟩ ⟨Nat.zero_le _, Nat.zero_le _⟩ rfl rfl (Nat.le_of_ble_eq_true rfl) dX5_ask_43 (fun r sg h_7 H locs hw => ?_)
  obtain ⟨rfl, rfl⟩ := h_7
  have hw : xW G A s.heap [[(xo, .inr (4, [.ref h0, .ref h1, .ref hh, .ref sl, .ref sv, .ref tz, .ref az]))], aucW Y h0 (mAsk ρ b k n) γ6, hisW Y hh hb2 (nxt nx) (min (ct + 1) 14), ringW Y hb2 (setR rr nx ρ) (setR gg nx γ)] H locs := hw
  have q_8 : act (mAsk ρ b k n) b ≤ 243 := act_le hI2 (by omega)
  exact hret _ _ _ (nI (act (mAsk ρ b k n) b)) _ _ dX5_ask_46 hw rfl rfl ⟨rfl, γ6, rfl⟩
set_option maxHeartbeats 4000000 in
set_option maxRecDepth 20000 in
theorem k_X5_bid (l : Launch) (G : va_G) (Y : Nat → Nat) (xo h0 h1 hh sl sv tz az : Nat) (hb2 nx ct : Nat) (rr : Nat → Nat → Nat) (gg : Nat → Nat → Nat → Nat) (b : Nat) (ρ : Nat → Nat) (γ : Nat → Nat → Nat) (hI : Inv ρ) (hnx : nx < 14) (hct : ct ≤ 14) (g0 : b < 2 ^ 31) (ht : tBid ρ b = 0) : CtI l yX5_bid cX5_bid 2 .int 4 102 [.ref xo, .int (nI b)] [[(xo, .inr (4, [.ref h0, .ref h1, .ref hh, .ref sl, .ref sv, .ref tz, .ref az]))], aucW Y h0 ρ γ, hisW Y hh hb2 nx ct, ringW Y hb2 rr gg] (fun r sg => r = prof (mBid ρ b) b ∧ ∃ (γ' : Nat → Nat → Nat), sg = [[(xo, .inr (4, [.ref h0, .ref h1, .ref hh, .ref sl, .ref sv, .ref tz, .ref az]))], aucW Y h0 (mBid ρ b) γ', hisW Y hh hb2 (nxt nx) (min (ct + 1) 14), ringW Y hb2 (setR rr nx ρ) (setR gg nx γ)]) G Y := by
  refine x_ofI (by decide) (Nat.le_of_ble_eq_true rfl) (fun p e s m args below meth c A ls Q M hK hZ hw hl hret => ?_)
  obtain ⟨hx, hb, -⟩ := id M
  have hl : lv_has ls 2 [(0, .ref xo), (1, .int (nI b))] := hl
  have := hI.n6
  have := hI.over
  have := hI.keep
  have := hI.stepp
  have hok := okN_bid ht
  refine lv_aload_n hx hb dX5_bid_0 rfl (lv_at hl 0 rfl) ?_
  refine x_get M hK hw 0 0 rfl rfl ff_X5_10 rfl dX5_bid_1 ?_
  refine lv_iload_n hx hb dX5_bid_4 rfl (lv_at hl 1 rfl) ?_
  refine x_cVI (As := [.int (nI b)]) (k_X1_whyNotBid l G Y h0 ρ γ (nI b) (hI)) cw_X5_210 [1] 1 0 M hK hZ hw hl.1 rfl (by decide) rfl rfl rfl ⟨by decide, by decide⟩ ⟨Nat.zero_le _, Nat.zero_le _⟩ rfl rfl (Nat.le_of_ble_eq_true rfl) dX5_bid_5 (fun r sg h_1 H locs hw => ?_)
  obtain ⟨rfl, rfl⟩ := h_1
  have hw : xW G A s.heap [[(xo, .inr (4, [.ref h0, .ref h1, .ref hh, .ref sl, .ref sv, .ref tz, .ref az]))], aucW Y h0 ρ γ, hisW Y hh hb2 nx ct, ringW Y hb2 rr gg] H locs := hw
  refine x_topN (n := 0) (congrArg nI (by have h9 := ht; unfold tBid at h9; rw [nI_toInt g0]; exact h9)) ?_
  refine x_cSV (As := [.int (nI 0)]) (k_X5_refuse l G Y ) cw_X5_180 [] M hK hZ hw hl.1 rfl (by decide) ⟨by decide, by decide⟩ ⟨Nat.zero_le _, Nat.zero_le _⟩ rfl rfl (Nat.le_of_ble_eq_true rfl) dX5_bid_8 (fun sg h_2 H locs hw => ?_)
  obtain rfl := h_2
  have hw : xW G A s.heap [[(xo, .inr (4, [.ref h0, .ref h1, .ref hh, .ref sl, .ref sv, .ref tz, .ref az]))], aucW Y h0 ρ γ, hisW Y hh hb2 nx ct, ringW Y hb2 rr gg] H locs := hw
  refine lv_aload_n hx hb dX5_bid_11 rfl (lv_at hl 0 rfl) ?_
  refine x_get M hK hw 0 0 rfl rfl ff_X5_22 rfl dX5_bid_12 ?_
  refine lv_aload_n hx hb dX5_bid_15 rfl (lv_at hl 0 rfl) ?_
  refine x_get M hK hw 0 0 rfl rfl ff_X5_10 rfl dX5_bid_16 ?_
  refine x_cVV (As := [.ref h0]) (k_X2_remember l G Y hh hb2 nx ct h0 rr gg ρ γ (hI) (by omega) (by omega)) cw_X5_183 [2, 1, 3] 2 0 M hK hZ hw hl.1 rfl (by decide) rfl rfl rfl ⟨by decide, by decide⟩ ⟨Nat.zero_le _, Nat.zero_le _⟩ rfl rfl (Nat.le_of_ble_eq_true rfl) dX5_bid_19 (fun sg h_3 H locs hw => ?_)
  obtain rfl := h_3
  have hw : xW G A s.heap [[(xo, .inr (4, [.ref h0, .ref h1, .ref hh, .ref sl, .ref sv, .ref tz, .ref az]))], aucW Y h0 ρ γ, hisW Y hh hb2 (nxt nx) (min (ct + 1) 14), ringW Y hb2 (setR rr nx ρ) (setR gg nx γ)] H locs := hw
  refine lv_aload_n hx hb dX5_bid_22 rfl (lv_at hl 0 rfl) ?_
  refine x_get M hK hw 0 0 rfl rfl ff_X5_10 rfl dX5_bid_23 ?_
  refine lv_iload_n hx hb dX5_bid_26 rfl (lv_at hl 1 rfl) ?_
  refine x_cVV (As := [.int (nI b)]) (k_X1_bidByValues l G Y h0 b ρ γ (hI) (by omega)) cw_X5_213 [1] 1 0 M hK hZ hw hl.1 rfl (by decide) rfl rfl rfl ⟨by decide, by decide⟩ ⟨Nat.zero_le _, Nat.zero_le _⟩ rfl rfl (Nat.le_of_ble_eq_true rfl) dX5_bid_27 (fun sg h_4 H locs hw => ?_)
  obtain ⟨γa5, rfl⟩ := h_4
  have hw : xW G A s.heap [[(xo, .inr (4, [.ref h0, .ref h1, .ref hh, .ref sl, .ref sv, .ref tz, .ref az]))], aucW Y h0 (mBid ρ b) γa5, hisW Y hh hb2 (nxt nx) (min (ct + 1) 14), ringW Y hb2 (setR rr nx ρ) (setR gg nx γ)] H locs := hw
  have hI2 := Inv_mBid hI hok.1
  have e4 : mBid ρ b 4 = ρ 4 := bid_4
  refine lv_aload_n hx hb dX5_bid_30 rfl (lv_at hl 0 rfl) ?_
  refine x_get M hK hw 0 0 rfl rfl ff_X5_10 rfl dX5_bid_31 ?_
  refine lv_iload_n hx hb dX5_bid_34 rfl (lv_at hl 1 rfl) ?_
  refine x_cVI (As := [.int (nI b)]) (k_X1_profit l G Y h0 b (mBid ρ b) γa5 (hI2) (by omega)) cw_X5_148 [1] 1 0 M hK hZ hw hl.1 rfl (by decide) rfl rfl rfl ⟨by decide, by decide⟩ ⟨Nat.zero_le _, Nat.zero_le _⟩ rfl rfl (Nat.le_of_ble_eq_true rfl) dX5_bid_35 (fun r sg h_6 H locs hw => ?_)
  obtain ⟨rfl, rfl⟩ := h_6
  have hw : xW G A s.heap [[(xo, .inr (4, [.ref h0, .ref h1, .ref hh, .ref sl, .ref sv, .ref tz, .ref az]))], aucW Y h0 (mBid ρ b) γa5, hisW Y hh hb2 (nxt nx) (min (ct + 1) 14), ringW Y hb2 (setR rr nx ρ) (setR gg nx γ)] H locs := hw
  exact hret _ _ _ (prof (mBid ρ b) b) _ _ dX5_bid_38 hw rfl rfl ⟨rfl, γa5, rfl⟩
set_option maxHeartbeats 4000000 in
set_option maxRecDepth 20000 in
theorem k_X5_close (l : Launch) (G : va_G) (Y : Nat → Nat) (xo h0 h1 hh sl sv tz az : Nat) (hb2 nx ct : Nat) (rr : Nat → Nat → Nat) (gg : Nat → Nat → Nat → Nat) (ρ : Nat → Nat) (γ : Nat → Nat → Nat) (hI : Inv ρ) (hnx : nx < 14) (hct : ct ≤ 14) (ht : whyClose ρ = 0) : CtI l yX5_close cX5_close 1 .int 3 102 [.ref xo] [[(xo, .inr (4, [.ref h0, .ref h1, .ref hh, .ref sl, .ref sv, .ref tz, .ref az]))], aucW Y h0 ρ γ, hisW Y hh hb2 nx ct, ringW Y hb2 rr gg] (fun r sg => r = nI (scarce (cl1 ρ)) ∧ ∃ (γ' : Nat → Nat → Nat), sg = [[(xo, .inr (4, [.ref h0, .ref h1, .ref hh, .ref sl, .ref sv, .ref tz, .ref az]))], aucW Y h0 (mClose ρ) γ', hisW Y hh hb2 (nxt nx) (min (ct + 1) 14), ringW Y hb2 (setR rr nx ρ) (setR gg nx γ)]) G Y := by
  refine x_ofI (by decide) (Nat.le_of_ble_eq_true rfl) (fun p e s m args below meth c A ls Q M hK hZ hw hl hret => ?_)
  obtain ⟨hx, hb, -⟩ := id M
  have hl : lv_has ls 1 [(0, .ref xo)] := hl
  have := hI.n6
  have := hI.over
  have := hI.keep
  have := hI.stepp
  have hok := ok_close ht
  refine lv_aload_n hx hb dX5_close_0 rfl (lv_at hl 0 rfl) ?_
  refine x_get M hK hw 0 0 rfl rfl ff_X5_10 rfl dX5_close_1 ?_
  refine x_cVI (As := []) (k_X1_whyNotClose l G Y h0 ρ γ (hI)) cw_X5_216 [1] 1 0 M hK hZ hw hl.1 rfl (by decide) rfl rfl rfl ⟨by decide, by decide⟩ ⟨Nat.zero_le _, Nat.zero_le _⟩ rfl rfl (Nat.le_of_ble_eq_true rfl) dX5_close_4 (fun r sg h_1 H locs hw => ?_)
  obtain ⟨rfl, rfl⟩ := h_1
  have hw : xW G A s.heap [[(xo, .inr (4, [.ref h0, .ref h1, .ref hh, .ref sl, .ref sv, .ref tz, .ref az]))], aucW Y h0 ρ γ, hisW Y hh hb2 nx ct, ringW Y hb2 rr gg] H locs := hw
  refine x_topN (n := 0) (congrArg nI (by have h9 := ht; exact h9)) ?_
  refine x_cSV (As := [.int (nI 0)]) (k_X5_refuse l G Y ) cw_X5_180 [] M hK hZ hw hl.1 rfl (by decide) ⟨by decide, by decide⟩ ⟨Nat.zero_le _, Nat.zero_le _⟩ rfl rfl (Nat.le_of_ble_eq_true rfl) dX5_close_7 (fun sg h_2 H locs hw => ?_)
  obtain rfl := h_2
  have hw : xW G A s.heap [[(xo, .inr (4, [.ref h0, .ref h1, .ref hh, .ref sl, .ref sv, .ref tz, .ref az]))], aucW Y h0 ρ γ, hisW Y hh hb2 nx ct, ringW Y hb2 rr gg] H locs := hw
  refine lv_aload_n hx hb dX5_close_10 rfl (lv_at hl 0 rfl) ?_
  refine x_get M hK hw 0 0 rfl rfl ff_X5_22 rfl dX5_close_11 ?_
  refine lv_aload_n hx hb dX5_close_14 rfl (lv_at hl 0 rfl) ?_
  refine x_get M hK hw 0 0 rfl rfl ff_X5_10 rfl dX5_close_15 ?_
  refine x_cVV (As := [.ref h0]) (k_X2_remember l G Y hh hb2 nx ct h0 rr gg ρ γ (hI) (by omega) (by omega)) cw_X5_183 [2, 1, 3] 2 0 M hK hZ hw hl.1 rfl (by decide) rfl rfl rfl ⟨by decide, by decide⟩ ⟨Nat.zero_le _, Nat.zero_le _⟩ rfl rfl (Nat.le_of_ble_eq_true rfl) dX5_close_18 (fun sg h_3 H locs hw => ?_)
  obtain rfl := h_3
  have hw : xW G A s.heap [[(xo, .inr (4, [.ref h0, .ref h1, .ref hh, .ref sl, .ref sv, .ref tz, .ref az]))], aucW Y h0 ρ γ, hisW Y hh hb2 (nxt nx) (min (ct + 1) 14), ringW Y hb2 (setR rr nx ρ) (setR gg nx γ)] H locs := hw
  refine lv_aload_n hx hb dX5_close_21 rfl (lv_at hl 0 rfl) ?_
  refine x_get M hK hw 0 0 rfl rfl ff_X5_10 rfl dX5_close_22 ?_
  refine x_cVI (As := []) (k_X1_closeRound l G Y h0 ρ γ (hI)) cw_X5_219 [1] 1 0 M hK hZ hw hl.1 rfl (by decide) rfl rfl rfl ⟨by decide, by decide⟩ ⟨Nat.zero_le _, Nat.zero_le _⟩ rfl rfl (Nat.le_of_ble_eq_true rfl) dX5_close_25 (fun r sg h_4 H locs hw => ?_)
  obtain ⟨rfl, γa5, rfl⟩ := h_4
  have hw : xW G A s.heap [[(xo, .inr (4, [.ref h0, .ref h1, .ref hh, .ref sl, .ref sv, .ref tz, .ref az]))], aucW Y h0 (mClose ρ) γa5, hisW Y hh hb2 (nxt nx) (min (ct + 1) 14), ringW Y hb2 (setR rr nx ρ) (setR gg nx γ)] H locs := hw
  exact hret _ _ _ (nI (scarce (cl1 ρ))) _ _ dX5_close_28 hw rfl rfl ⟨rfl, γa5, rfl⟩
