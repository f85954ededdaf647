theorem i2c_n : ∀ n, n < 256 → ((nI n).toUInt32 % 65536).toInt32 = nI n := by decide +kernel
theorem txE_le : ∀ {lt : Nat → Nat} {n f i : Nat}, n ≤ 120 → txE lt n f i ≤ 130
  | _, _, 0, _, _ => Nat.zero_le _
  | lt, n, f + 1, i, h => by
    unfold txE
    split
    · exact Nat.zero_le _
    · split
      · omega
      · have hd := dgN_le (ch := lt i)
        split
        · omega
        · exact txE_le h
theorem errP_le {lt : Nat → Nat} {n : Nat} (h : n ≤ 120) : errP lt n ≤ 130 := by
  unfold errP; split
  · decide
  · exact txE_le h
set_option maxHeartbeats 4000000 in
set_option maxRecDepth 20000 in
theorem k_X5_append (l : Launch) (G : va_G) (Y : Nat → Nat) (xo h0 h1 hh sl sv tz az : Nat) (n : Nat) (lt : Nat → Nat) (ch : Nat) (hn : n ≤ 120) (hlt : ∀ i, i < 120 → lt i < 256) (hc : ch < 256) (hn2 : n < 120) : CtI l yX5_append cX5_append 2 .int 1 22 [.ref xo, .int (nI ch)] [[(xo, .inr (4, [.ref h0, .ref h1, .ref hh, .ref sl, .ref sv, .ref tz, .ref az]))], txtW Y tz lt n] (fun r sg => r = nI (1 + n) ∧ sg = [[(xo, .inr (4, [.ref h0, .ref h1, .ref hh, .ref sl, .ref sv, .ref tz, .ref az]))], txtW Y tz (setN lt n ch) (1 + n)]) G Y := by
  refine x_ofI (by decide) (Nat.le_of_ble_eq_true rfl) (fun p e s m args below meth c A ls Q M hK hZ hw hl hret => ?_)
  obtain ⟨hx, hb, -⟩ := id M
  have hl : lv_has ls 2 [(0, .ref xo), (1, .int (nI ch))] := hl
  refine lv_iload_n hx hb dX5_append_0 rfl (lv_at hl 1 rfl) ?_
  refine lv_iconst (v := (nI 0)) hx hb dX5_append_1 (by decide) ?_
  refine lv_sipush (v := (nI 255)) hx hb dX5_append_2 (by decide) ?_
  refine x_cSI (As := [.int (nI ch), .int (nI 0), .int (nI 255)]) (k_X5_outside l G Y (nI ch) (nI 0) (nI 255)) cw_X5_48 [] M hK hZ hw hl.1 rfl (by decide) ⟨by decide, by decide⟩ ⟨Nat.zero_le _, Nat.zero_le _⟩ rfl rfl (Nat.le_of_ble_eq_true rfl) dX5_append_5 (fun r sg h_1 H locs hw => ?_)
  obtain ⟨rfl, rfl⟩ := h_1
  have hw : xW G A s.heap [[(xo, .inr (4, [.ref h0, .ref h1, .ref hh, .ref sl, .ref sv, .ref tz, .ref az]))], txtW Y tz lt n] H locs := hw
  refine x_beq M (tgt := 21) dX5_append_8 (by decide) (fun c_2 => ?_) (fun c_2 => absurd c_2 (fun z => nzT (a := 0) (b := 255) z (by omega) ⟨by omega, by omega⟩))
  refine lv_aload_n hx hb dX5_append_21 rfl (lv_at hl 0 rfl) ?_
  refine x_get M hK hw 0 0 rfl rfl ff_X5_37 rfl dX5_append_22 ?_
  refine x_cVI (As := []) (k_X4_isFull l G Y tz n lt (by omega) (by omega)) cw_X5_59 [1] 1 0 M hK hZ hw hl.1 rfl (by decide) rfl rfl rfl ⟨by decide, by decide⟩ ⟨Nat.zero_le _, Nat.zero_le _⟩ rfl rfl (Nat.le_of_ble_eq_true rfl) dX5_append_25 (fun r sg h_3 H locs hw => ?_)
  obtain ⟨rfl, rfl⟩ := h_3
  have hw : xW G A s.heap [[(xo, .inr (4, [.ref h0, .ref h1, .ref hh, .ref sl, .ref sv, .ref tz, .ref az]))], txtW Y tz lt n] H locs := hw
  refine x_beq M (tgt := 41) dX5_append_28 (by decide) (fun c_4 => ?_) (fun c_4 => absurd c_4 (fun z => absurd (of_decide_eq_true z) (by omega)))
  refine lv_aload_n hx hb dX5_append_41 rfl (lv_at hl 0 rfl) ?_
  refine x_get M hK hw 0 0 rfl rfl ff_X5_37 rfl dX5_append_42 ?_
  refine lv_iload_n hx hb dX5_append_45 rfl (lv_at hl 1 rfl) ?_
  refine lv_i2c (v := (nI ch)) hx hb dX5_append_46 (i2c_n ch hc) ?_
  refine x_cVI (As := [.int (nI ch)]) (k_X4_put l G Y tz n lt ch (by omega) (by omega) (by omega) (by omega)) cw_X5_68 [1] 1 0 M hK hZ hw hl.1 rfl (by decide) rfl rfl rfl ⟨by decide, by decide⟩ ⟨Nat.zero_le _, Nat.zero_le _⟩ rfl rfl (Nat.le_of_ble_eq_true rfl) dX5_append_47 (fun r sg h_5 H locs hw => ?_)
  obtain ⟨rfl, rfl⟩ := h_5
  have hw : xW G A s.heap [[(xo, .inr (4, [.ref h0, .ref h1, .ref hh, .ref sl, .ref sv, .ref tz, .ref az]))], txtW Y tz (setN lt n ch) (1 + n)] H locs := hw
  exact hret _ _ _ (nI (1 + n)) _ _ dX5_append_50 hw rfl rfl ⟨rfl, rfl⟩
set_option maxHeartbeats 4000000 in
set_option maxRecDepth 20000 in
theorem t_X5_append_1 (l : Launch) (hfl : l.stackTraces = false) (G : va_G) (Y : Nat → Nat) (xo h0 h1 hh sl sv tz az : Nat) (n : Nat) (lt : Nat → Nat) (c1 : Int32) (hn : n ≤ 120) (hlt : ∀ i, i < 120 → lt i < 256) (hk : (!inZ c1.toInt 0 255) = true) : CtT l yX5_append cX5_append 2 (some .int) 6 82 [.ref xo, .int c1] [[(xo, .inr (4, [.ref h0, .ref h1, .ref hh, .ref sl, .ref sv, .ref tz, .ref az]))], txtW Y tz lt n] eIAE G Y := by
  refine x_ofT (by decide) (Nat.le_of_ble_eq_true rfl) (fun p e s m args below meth c A ls Q M hK hZ hw hl htab hlk hQ => ?_)
  obtain ⟨hx, hb, -⟩ := id M
  have hl : lv_has ls 2 [(0, .ref xo), (1, .int c1)] := hl
  refine lv_iload_n hx hb dX5_append_0 rfl (lv_at hl 1 rfl) ?_
  refine lv_iconst (v := (nI 0)) hx hb dX5_append_1 (by decide) ?_
  refine lv_sipush (v := (nI 255)) hx hb dX5_append_2 (by decide) ?_
  refine x_cSI (As := [.int c1, .int (nI 0), .int (nI 255)]) (k_X5_outside l G Y c1 (nI 0) (nI 255)) cw_X5_48 [] M hK hZ hw hl.1 rfl (by decide) ⟨by decide, by decide⟩ ⟨Nat.zero_le _, Nat.zero_le _⟩ rfl rfl (Nat.le_of_ble_eq_true rfl) dX5_append_5 (fun r sg h_1 H locs hw => ?_)
  obtain ⟨rfl, rfl⟩ := h_1
  have hw : xW G A s.heap [[(xo, .inr (4, [.ref h0, .ref h1, .ref hh, .ref sl, .ref sv, .ref tz, .ref az]))], txtW Y tz lt n] H locs := hw
  refine x_beq M (tgt := 21) dX5_append_8 (by decide) (fun c_2 => absurd c_2 (fun z => by have z2 : (!inZ c1.toInt 0 255) = false := z; rw [hk] at z2; exact absurd z2 (by decide))) (fun c_2 => ?_)
  exact x_throwS (own := RX5) (ik := 52) (ic := 56) (is := 54) (q := 212) (text := "no character code") hfl M hK hZ hw hl.1 htab hlk hQ thr_IAE (by simp [xStr]) dX5_append_11 dX5_append_14 dX5_append_15 dX5_append_17 dX5_append_20 ⟨by decide, by decide, by decide, by decide⟩
set_option maxHeartbeats 4000000 in
set_option maxRecDepth 20000 in
theorem t_X5_append_2 (l : Launch) (hfl : l.stackTraces = false) (G : va_G) (Y : Nat → Nat) (xo h0 h1 hh sl sv tz az : Nat) (n : Nat) (lt : Nat → Nat) (ch : Nat) (hn : n ≤ 120) (hlt : ∀ i, i < 120 → lt i < 256) (hc : ch < 256) (hn2 : 120 ≤ n) : CtT l yX5_append cX5_append 2 (some .int) 6 82 [.ref xo, .int (nI ch)] [[(xo, .inr (4, [.ref h0, .ref h1, .ref hh, .ref sl, .ref sv, .ref tz, .ref az]))], txtW Y tz lt n] eISE G Y := by
  refine x_ofT (by decide) (Nat.le_of_ble_eq_true rfl) (fun p e s m args below meth c A ls Q M hK hZ hw hl htab hlk hQ => ?_)
  obtain ⟨hx, hb, -⟩ := id M
  have hl : lv_has ls 2 [(0, .ref xo), (1, .int (nI ch))] := hl
  refine lv_iload_n hx hb dX5_append_0 rfl (lv_at hl 1 rfl) ?_
  refine lv_iconst (v := (nI 0)) hx hb dX5_append_1 (by decide) ?_
  refine lv_sipush (v := (nI 255)) hx hb dX5_append_2 (by decide) ?_
  refine x_cSI (As := [.int (nI ch), .int (nI 0), .int (nI 255)]) (k_X5_outside l G Y (nI ch) (nI 0) (nI 255)) cw_X5_48 [] M hK hZ hw hl.1 rfl (by decide) ⟨by decide, by decide⟩ ⟨Nat.zero_le _, Nat.zero_le _⟩ rfl rfl (Nat.le_of_ble_eq_true rfl) dX5_append_5 (fun r sg h_1 H locs hw => ?_)
  obtain ⟨rfl, rfl⟩ := h_1
  have hw : xW G A s.heap [[(xo, .inr (4, [.ref h0, .ref h1, .ref hh, .ref sl, .ref sv, .ref tz, .ref az]))], txtW Y tz lt n] H locs := hw
  refine x_beq M (tgt := 21) dX5_append_8 (by decide) (fun c_2 => ?_) (fun c_2 => absurd c_2 (fun z => nzT (a := 0) (b := 255) z (by omega) ⟨by omega, by omega⟩))
  refine lv_aload_n hx hb dX5_append_21 rfl (lv_at hl 0 rfl) ?_
  refine x_get M hK hw 0 0 rfl rfl ff_X5_37 rfl dX5_append_22 ?_
  refine x_cVI (As := []) (k_X4_isFull l G Y tz n lt (by omega) (by omega)) cw_X5_59 [1] 1 0 M hK hZ hw hl.1 rfl (by decide) rfl rfl rfl ⟨by decide, by decide⟩ ⟨Nat.zero_le _, Nat.zero_le _⟩ rfl rfl (Nat.le_of_ble_eq_true rfl) dX5_append_25 (fun r sg h_3 H locs hw => ?_)
  obtain ⟨rfl, rfl⟩ := h_3
  have hw : xW G A s.heap [[(xo, .inr (4, [.ref h0, .ref h1, .ref hh, .ref sl, .ref sv, .ref tz, .ref az]))], txtW Y tz lt n] H locs := hw
  refine x_beq M (tgt := 41) dX5_append_28 (by decide) (fun c_4 => absurd c_4 (fun z => absurd (of_decide_eq_false z) (by omega))) (fun c_4 => ?_)
  exact x_throwS (own := RX5) (ik := 63) (ic := 67) (is := 65) (q := 213) (text := "the text is full") hfl M hK hZ hw hl.1 htab hlk hQ thr_ISE (by simp [xStr]) dX5_append_31 dX5_append_34 dX5_append_35 dX5_append_37 dX5_append_40 ⟨by decide, by decide, by decide, by decide⟩
set_option maxHeartbeats 4000000 in
set_option maxRecDepth 20000 in
theorem k_X5_clearText (l : Launch) (G : va_G) (Y : Nat → Nat) (xo h0 h1 hh sl sv tz az : Nat) (n : Nat) (lt : Nat → Nat) (hn : n ≤ 120) (hlt : ∀ i, i < 120 → lt i < 256) : CtI l yX5_clearText cX5_clearText 1 .int 1 21 [.ref xo] [[(xo, .inr (4, [.ref h0, .ref h1, .ref hh, .ref sl, .ref sv, .ref tz, .ref az]))], txtW Y tz lt n] (fun r sg => r = nI n ∧ sg = [[(xo, .inr (4, [.ref h0, .ref h1, .ref hh, .ref sl, .ref sv, .ref tz, .ref az]))], txtW Y tz lt 0]) G Y := by
  refine x_ofI (by decide) (Nat.le_of_ble_eq_true rfl) (fun p e s m args below meth c A ls Q M hK hZ hw hl hret => ?_)
  obtain ⟨hx, hb, -⟩ := id M
  have hl : lv_has ls 1 [(0, .ref xo)] := hl
  refine lv_aload_n hx hb dX5_clearText_0 rfl (lv_at hl 0 rfl) ?_
  refine x_get M hK hw 0 0 rfl rfl ff_X5_37 rfl dX5_clearText_1 ?_
  refine x_cVI (As := []) (k_X4_empty l G Y tz n lt (by omega) (by omega)) cw_X5_72 [1] 1 0 M hK hZ hw hl.1 rfl (by decide) rfl rfl rfl ⟨by decide, by decide⟩ ⟨Nat.zero_le _, Nat.zero_le _⟩ rfl rfl (Nat.le_of_ble_eq_true rfl) dX5_clearText_4 (fun r sg h_1 H locs hw => ?_)
  obtain ⟨rfl, rfl⟩ := h_1
  have hw : xW G A s.heap [[(xo, .inr (4, [.ref h0, .ref h1, .ref hh, .ref sl, .ref sv, .ref tz, .ref az]))], txtW Y tz lt 0] H locs := hw
  exact hret _ _ _ (nI n) _ _ dX5_clearText_7 hw rfl rfl ⟨rfl, rfl⟩
set_option maxHeartbeats 4000000 in
set_option maxRecDepth 20000 in
theorem k_X5_errorPosition (l : Launch) (G : va_G) (Y : Nat → Nat) (xo h0 h1 hh sl sv tz az : Nat) (n : Nat) (lt : Nat → Nat) (hn : n ≤ 120) (hlt : ∀ i, i < 120 → lt i < 256) : CtI l yX5_errorPosition cX5_errorPosition 1 .int 6 135 [.ref xo] [[(xo, .inr (4, [.ref h0, .ref h1, .ref hh, .ref sl, .ref sv, .ref tz, .ref az]))], txtW Y tz lt n] (fun r sg => r = mw (errP lt n) ∧ sg = [[(xo, .inr (4, [.ref h0, .ref h1, .ref hh, .ref sl, .ref sv, .ref tz, .ref az]))], txtW Y tz lt n]) G Y := by
  refine x_ofI (by decide) (Nat.le_of_ble_eq_true rfl) (fun p e s m args below meth c A ls Q M hK hZ hw hl hret => ?_)
  obtain ⟨hx, hb, -⟩ := id M
  have hl : lv_has ls 1 [(0, .ref xo)] := hl
  refine lv_aload_n hx hb dX5_errorPosition_0 rfl (lv_at hl 0 rfl) ?_
  refine x_get M hK hw 0 0 rfl rfl ff_X5_37 rfl dX5_errorPosition_1 ?_
  refine x_cVI (As := []) (k_X4_firstError l G Y tz n lt (by omega) (by omega)) cw_X5_76 [1] 1 0 M hK hZ hw hl.1 rfl (by decide) rfl rfl rfl ⟨by decide, by decide⟩ ⟨Nat.zero_le _, Nat.zero_le _⟩ rfl rfl (Nat.le_of_ble_eq_true rfl) dX5_errorPosition_4 (fun r sg h_1 H locs hw => ?_)
  obtain ⟨rfl, rfl⟩ := h_1
  have hw : xW G A s.heap [[(xo, .inr (4, [.ref h0, .ref h1, .ref hh, .ref sl, .ref sv, .ref tz, .ref az]))], txtW Y tz lt n] H locs := hw
  exact hret _ _ _ (mw (errP lt n)) _ _ dX5_errorPosition_7 hw rfl rfl ⟨rfl, rfl⟩
set_option maxHeartbeats 4000000 in
set_option maxRecDepth 20000 in
theorem k_X5_load (l : Launch) (G : va_G) (Y : Nat → Nat) (xo h0 h1 hh sl sv tz az : Nat) (n hb2 nx ct : Nat) (lt : Nat → Nat) (fl : Nat → Int32) (ρ : Nat → Nat) (γ : Nat → Nat → Nat) (hn : n ≤ 120) (hlt : ∀ i, i < 120 → lt i < 256) (he : errP lt n = 0) : CtI l yX5_load cX5_load 2 .int 7 161 [.ref xo] [[(xo, .inr (4, [.ref h0, .ref h1, .ref hh, .ref sl, .ref sv, .ref tz, .ref az]))], txtW Y tz lt n, aucW Y h0 ρ γ, hisW Y hh hb2 nx ct, [(sv, .inl (Y 1, 2, .inl fl))]] (fun r sg => r = nI ((tR lt n 1 row0 0).2) ∧ ∃ (γ' : Nat → Nat → Nat), sg = [[(xo, .inr (4, [.ref h0, .ref h1, .ref hh, .ref sl, .ref sv, .ref tz, .ref az]))], txtW Y tz lt n, aucW Y h0 ((tR lt n 1 row0 0).1) γ', hisW Y hh hb2 nx 0, [(sv, .inl (Y 1, 2, .inl (upd (upd fl 0 (nI 0)) 1 (nI 0))))]]) G Y := by
  refine x_ofI (by decide) (Nat.le_of_ble_eq_true rfl) (fun p e s m args below meth c A ls Q M hK hZ hw hl hret => ?_)
  obtain ⟨hx, hb, -⟩ := id M
  have hl : lv_has ls 2 [(0, .ref xo)] := hl
  refine lv_aload_n hx hb dX5_load_0 rfl (lv_at hl 0 rfl) ?_
  refine x_get M hK hw 0 0 rfl rfl ff_X5_37 rfl dX5_load_1 ?_
  refine x_cVI (As := []) (k_X4_firstError l G Y tz n lt (by omega) (by omega)) cw_X5_76 [1] 1 0 M hK hZ hw hl.1 rfl (by decide) rfl rfl rfl ⟨by decide, by decide⟩ ⟨Nat.zero_le _, Nat.zero_le _⟩ rfl rfl (Nat.le_of_ble_eq_true rfl) dX5_load_4 (fun r sg h_1 H locs hw => ?_)
  obtain ⟨rfl, rfl⟩ := h_1
  have hw : xW G A s.heap [[(xo, .inr (4, [.ref h0, .ref h1, .ref hh, .ref sl, .ref sv, .ref tz, .ref az]))], txtW Y tz lt n, aucW Y h0 ρ γ, hisW Y hh hb2 nx ct, [(sv, .inl (Y 1, 2, .inl fl))]] H locs := hw
  refine lv_iconst (v := (mw 0)) hx hb dX5_load_7 (by decide) ?_
  refine lv_icmp_eq (tgt := 21) hx hb dX5_load_8 (by decide) (fun c_2 => ?_) (fun c_2 => absurd c_2 (fun z => z (by rw [he])))
  refine lv_aload_n hx hb dX5_load_21 rfl (lv_at hl 0 rfl) ?_
  refine x_get M hK hw 0 0 rfl rfl ff_X5_10 rfl dX5_load_22 ?_
  refine x_cVV (As := []) (k_X1_renew l G Y h0 (ρ 4) (ρ 0) (ρ 1) (ρ 2) (ρ 3) (supF ρ) (ptsF ρ) (priF ρ) (rgtF ρ γ) (capF ρ γ) (pckF ρ γ) (valF ρ γ) (demF ρ γ) (lotF ρ γ) (worF ρ γ)) cw_X5_81 [2] 2 0 M hK hZ hw hl.1 rfl (by decide) rfl rfl rfl ⟨by decide, by decide⟩ ⟨Nat.zero_le _, Nat.zero_le _⟩ rfl rfl (Nat.le_of_ble_eq_true rfl) dX5_load_25 (fun sg h_3 H locs hw => ?_)
  obtain ⟨γa4, rfl⟩ := h_3
  have hw : xW G A s.heap [[(xo, .inr (4, [.ref h0, .ref h1, .ref hh, .ref sl, .ref sv, .ref tz, .ref az]))], txtW Y tz lt n, aucW Y h0 row0 γa4, hisW Y hh hb2 nx ct, [(sv, .inl (Y 1, 2, .inl fl))]] H locs := hw
  refine lv_aload_n hx hb dX5_load_28 rfl (lv_at hl 0 rfl) ?_
  refine x_get M hK hw 0 0 rfl rfl ff_X5_22 rfl dX5_load_29 ?_
  refine x_cVV (As := []) (k_X2_forgetAll l G Y hh hb2 nx ct) cw_X5_84 [3] 3 0 M hK hZ hw hl.1 rfl (by decide) rfl rfl rfl ⟨by decide, by decide⟩ ⟨Nat.zero_le _, Nat.zero_le _⟩ rfl rfl (Nat.le_of_ble_eq_true rfl) dX5_load_32 (fun sg h_5 H locs hw => ?_)
  obtain rfl := h_5
  have hw : xW G A s.heap [[(xo, .inr (4, [.ref h0, .ref h1, .ref hh, .ref sl, .ref sv, .ref tz, .ref az]))], txtW Y tz lt n, aucW Y h0 row0 γa4, hisW Y hh hb2 nx 0, [(sv, .inl (Y 1, 2, .inl fl))]] H locs := hw
  refine lv_iconst (v := (nI 0)) hx hb dX5_load_35 (by decide) ?_
  refine lv_istore_n (lv' := [(1, .int (nI 0)), (0, .ref xo)]) hx hb dX5_load_36 rfl hl (by decide) rfl (fun ls hl => ?_)
  refine lv_iload_n hx hb dX5_load_37 rfl (lv_at hl 0 rfl) ?_
  refine lv_iconst (v := (nI 2)) hx hb dX5_load_38 (by decide) ?_
  refine x_cge M (tgt := 55) (by decide) (by decide) dX5_load_39 (by decide) (fun c_6 => absurd c_6 (by decide)) (fun c_6 => ?_)
  refine lv_aload_n hx hb dX5_load_42 rfl (lv_at hl 1 rfl) ?_
  refine x_get M hK hw 0 0 rfl rfl ff_X5_30 rfl dX5_load_43 ?_
  refine lv_iload_n hx hb dX5_load_46 rfl (lv_at hl 0 rfl) ?_
  refine lv_iconst (v := (nI 0)) hx hb dX5_load_47 (by decide) ?_
  refine x_zast M hK hw 4 0 rfl rfl (by decide) (by decide) (by decide) dX5_load_48 (fun H locs hw => ?_)
  have hw : xW G A s.heap [[(xo, .inr (4, [.ref h0, .ref h1, .ref hh, .ref sl, .ref sv, .ref tz, .ref az]))], txtW Y tz lt n, aucW Y h0 row0 γa4, hisW Y hh hb2 nx 0, [(sv, .inl (Y 1, 2, .inl (upd fl 0 (nI 0))))]] H locs := hw
  refine lv_iinc (v := (nI 1)) (lv' := [(1, .int (nI 1)), (0, .ref xo)]) hx hb dX5_load_49 hl (k := 0) rfl (by decide) (by decide) rfl (fun ls hl => ?_)
  refine lv_goto (tgt := 37) hx hb dX5_load_52 (by decide) ?_
  refine lv_iload_n hx hb dX5_load_37 rfl (lv_at hl 0 rfl) ?_
  refine lv_iconst (v := (nI 2)) hx hb dX5_load_38 (by decide) ?_
  refine x_cge M (tgt := 55) (by decide) (by decide) dX5_load_39 (by decide) (fun c_7 => absurd c_7 (by decide)) (fun c_7 => ?_)
  refine lv_aload_n hx hb dX5_load_42 rfl (lv_at hl 1 rfl) ?_
  refine x_get M hK hw 0 0 rfl rfl ff_X5_30 rfl dX5_load_43 ?_
  refine lv_iload_n hx hb dX5_load_46 rfl (lv_at hl 0 rfl) ?_
  refine lv_iconst (v := (nI 0)) hx hb dX5_load_47 (by decide) ?_
  refine x_zast M hK hw 4 0 rfl rfl (by decide) (by decide) (by decide) dX5_load_48 (fun H locs hw => ?_)
  have hw : xW G A s.heap [[(xo, .inr (4, [.ref h0, .ref h1, .ref hh, .ref sl, .ref sv, .ref tz, .ref az]))], txtW Y tz lt n, aucW Y h0 row0 γa4, hisW Y hh hb2 nx 0, [(sv, .inl (Y 1, 2, .inl (upd (upd fl 0 (nI 0)) 1 (nI 0))))]] H locs := hw
  refine lv_iinc (v := (nI 2)) (lv' := [(1, .int (nI 2)), (0, .ref xo)]) hx hb dX5_load_49 hl (k := 0) rfl (by decide) (by decide) rfl (fun ls hl => ?_)
  refine lv_goto (tgt := 37) hx hb dX5_load_52 (by decide) ?_
  refine lv_iload_n hx hb dX5_load_37 rfl (lv_at hl 0 rfl) ?_
  refine lv_iconst (v := (nI 2)) hx hb dX5_load_38 (by decide) ?_
  refine x_cge M (tgt := 55) (by decide) (by decide) dX5_load_39 (by decide) (fun c_8 => ?_) (fun c_8 => absurd c_8 (by decide))
  refine lv_aload_n hx hb dX5_load_55 rfl (lv_at hl 1 rfl) ?_
  refine x_get M hK hw 0 0 rfl rfl ff_X5_37 rfl dX5_load_56 ?_
  refine lv_aload_n hx hb dX5_load_59 rfl (lv_at hl 1 rfl) ?_
  refine x_get M hK hw 0 0 rfl rfl ff_X5_10 rfl dX5_load_60 ?_
  refine x_cVI (As := [.ref h0]) (k_X4_doCommands l G Y tz n lt h0 row0 γa4 (by omega) (by omega) (Inv_0) (by omega)) cw_X5_87 [1, 2] 1 0 M hK hZ hw hl.1 rfl (by decide) rfl rfl rfl ⟨by decide, by decide⟩ ⟨Nat.zero_le _, Nat.zero_le _⟩ rfl rfl (Nat.le_of_ble_eq_true rfl) dX5_load_63 (fun r sg h_9 H locs hw => ?_)
  obtain ⟨rfl, γa10, rfl⟩ := h_9
  have hw : xW G A s.heap [[(xo, .inr (4, [.ref h0, .ref h1, .ref hh, .ref sl, .ref sv, .ref tz, .ref az]))], txtW Y tz lt n, aucW Y h0 ((tR lt n 1 row0 0).1) γa10, hisW Y hh hb2 nx 0, [(sv, .inl (Y 1, 2, .inl (upd (upd fl 0 (nI 0)) 1 (nI 0))))]] H locs := hw
  exact hret _ _ _ (nI ((tR lt n 1 row0 0).2)) _ _ dX5_load_66 hw rfl rfl ⟨rfl, γa10, rfl⟩
set_option maxHeartbeats 4000000 in
set_option maxRecDepth 20000 in
theorem t_X5_load (l : Launch) (hfl : l.stackTraces = false) (G : va_G) (Y : Nat → Nat) (xo h0 h1 hh sl sv tz az : Nat) (n hb2 nx ct : Nat) (lt : Nat → Nat) (fl : Nat → Int32) (ρ : Nat → Nat) (γ : Nat → Nat → Nat) (hn : n ≤ 120) (hlt : ∀ i, i < 120 → lt i < 256) (he : errP lt n ≠ 0) : CtT l yX5_load cX5_load 2 (some .int) 6 135 [.ref xo] [[(xo, .inr (4, [.ref h0, .ref h1, .ref hh, .ref sl, .ref sv, .ref tz, .ref az]))], txtW Y tz lt n, aucW Y h0 ρ γ, hisW Y hh hb2 nx ct, [(sv, .inl (Y 1, 2, .inl fl))]] eISE G Y := by
  refine x_ofT (by decide) (Nat.le_of_ble_eq_true rfl) (fun p e s m args below meth c A ls Q M hK hZ hw hl htab hlk hQ => ?_)
  obtain ⟨hx, hb, -⟩ := id M
  have hl : lv_has ls 2 [(0, .ref xo)] := hl
  refine lv_aload_n hx hb dX5_load_0 rfl (lv_at hl 0 rfl) ?_
  refine x_get M hK hw 0 0 rfl rfl ff_X5_37 rfl dX5_load_1 ?_
  refine x_cVI (As := []) (k_X4_firstError l G Y tz n lt (by omega) (by omega)) cw_X5_76 [1] 1 0 M hK hZ hw hl.1 rfl (by decide) rfl rfl rfl ⟨by decide, by decide⟩ ⟨Nat.zero_le _, Nat.zero_le _⟩ rfl rfl (Nat.le_of_ble_eq_true rfl) dX5_load_4 (fun r sg h_1 H locs hw => ?_)
  obtain ⟨rfl, rfl⟩ := h_1
  have hw : xW G A s.heap [[(xo, .inr (4, [.ref h0, .ref h1, .ref hh, .ref sl, .ref sv, .ref tz, .ref az]))], txtW Y tz lt n, aucW Y h0 ρ γ, hisW Y hh hb2 nx ct, [(sv, .inl (Y 1, 2, .inl fl))]] H locs := hw
  refine lv_iconst (v := (mw 0)) hx hb dX5_load_7 (by decide) ?_
  refine lv_icmp_eq (tgt := 21) hx hb dX5_load_8 (by decide) (fun c_2 => absurd c_2 (fun z => he (mw_inj (Nat.lt_of_le_of_lt (errP_le hn) (by decide)) (by decide) z))) (fun c_2 => ?_)
  exact x_throwS (own := RX5) (ik := 63) (ic := 67) (is := 79) (q := 214) (text := "the text is not an auction") hfl M hK hZ hw hl.1 htab hlk hQ thr_ISE (by simp [xStr]) dX5_load_11 dX5_load_14 dX5_load_15 dX5_load_17 dX5_load_20 ⟨by decide, by decide, by decide, by decide⟩
def abtV (ρ : Nat → Nat) (w : Nat) : Nat := if w = 0 then ρ 4 else if w = 1 then ρ 0 else if w = 2 then ρ 1 else if w = 3 then scarce ρ else if w = 4 then allPck ρ else allCost ρ
def kndV (ρ : Nat → Nat) (k w : Nat) : Nat := if w = 0 then ρ (5 + k) else if w = 1 then ρ (8 + k) else if w = 2 then ρ (11 + k) else askedOf ρ k
def bidV (ρ : Nat → Nat) (j w : Nat) : Int32 := if w = 0 then nI (ρ (14 + 21 * j)) else if w = 1 then nI (ρ (15 + 21 * j)) else if w = 2 then nI (act ρ j) else if w = 3 then nI (ρ (22 + 21 * j)) else prof ρ j
def pckV (ρ : Nat → Nat) (j i w : Nat) : Nat := if w = 3 then worOf ρ j i else lotOf ρ j i w
set_option maxHeartbeats 4000000 in
set_option maxRecDepth 20000 in
theorem k_X5_about (l : Launch) (G : va_G) (Y : Nat → Nat) (xo h0 h1 hh sl sv tz az : Nat) (w : Nat) (ρ : Nat → Nat) (γ : Nat → Nat → Nat) (hI : Inv ρ) (hw6 : w < 6) : CtI l yX5_about cX5_about 2 .int 3 66 [.ref xo, .int (nI w)] [[(xo, .inr (4, [.ref h0, .ref h1, .ref hh, .ref sl, .ref sv, .ref tz, .ref az]))], aucW Y h0 ρ γ] (fun r sg => r = nI (abtV ρ w) ∧ sg = [[(xo, .inr (4, [.ref h0, .ref h1, .ref hh, .ref sl, .ref sv, .ref tz, .ref az]))], aucW Y h0 ρ γ]) G Y := by
  refine x_ofI (by decide) (Nat.le_of_ble_eq_true rfl) (fun p e s m args below meth c A ls Q M hK hZ hw hl hret => ?_)
  obtain ⟨hx, hb, -⟩ := id M
  have hl : lv_has ls 2 [(0, .ref xo), (1, .int (nI w))] := hl
  have := hI.n6
  have := hI.over
  have := hI.keep
  have := hI.stepp
  refine lv_iload_n hx hb dX5_about_0 rfl (lv_at hl 1 rfl) ?_
  rcases (show w = 0 ∨ w = 1 ∨ w = 2 ∨ w = 3 ∨ w = 4 ∨ w = 5 by omega) with e_1 | e_1 | e_1 | e_1 | e_1 | e_1
  · refine x_topN (n := 0) (congrArg nI e_1) ?_
    refine lv_tableIn (tgt := 40) hx hb dX5_about_1 (by decide) (by decide) rfl (by decide) ?_
    refine lv_aload_n hx hb dX5_about_40 rfl (lv_at hl 0 rfl) ?_
    refine x_get M hK hw 0 0 rfl rfl ff_X5_10 rfl dX5_about_41 ?_
    refine x_get M hK hw 1 0 rfl rfl ff_X5_91 rfl dX5_about_44 ?_
    exact hret _ _ _ (nI (ρ 4)) _ _ dX5_about_47 hw rfl rfl ⟨by clear hret hw hl M hK hZ hx hb; unfold abtV; rw [if_pos (by omega)], rfl⟩
  · refine x_topN (n := 1) (congrArg nI e_1) ?_
    refine lv_tableIn (tgt := 48) hx hb dX5_about_1 (by decide) (by decide) rfl (by decide) ?_
    refine lv_aload_n hx hb dX5_about_48 rfl (lv_at hl 0 rfl) ?_
    refine x_get M hK hw 0 0 rfl rfl ff_X5_10 rfl dX5_about_49 ?_
    refine x_get M hK hw 1 0 rfl rfl ff_X5_95 rfl dX5_about_52 ?_
    exact hret _ _ _ (nI (ρ 0)) _ _ dX5_about_55 hw rfl rfl ⟨by clear hret hw hl M hK hZ hx hb; unfold abtV; rw [if_neg (by omega), if_pos (by omega)], rfl⟩
  · refine x_topN (n := 2) (congrArg nI e_1) ?_
    refine lv_tableIn (tgt := 56) hx hb dX5_about_1 (by decide) (by decide) rfl (by decide) ?_
    refine lv_aload_n hx hb dX5_about_56 rfl (lv_at hl 0 rfl) ?_
    refine x_get M hK hw 0 0 rfl rfl ff_X5_10 rfl dX5_about_57 ?_
    refine x_get M hK hw 1 0 rfl rfl ff_X5_98 rfl dX5_about_60 ?_
    refine x_zeq M (tgt := 70) (by omega) dX5_about_63 (by decide) (fun c_2 => ?_) (fun c_2 => ?_)
    · refine lv_iconst (v := (nI 0)) hx hb dX5_about_70 (by decide) ?_
      exact hret _ _ _ (nI 0) _ _ dX5_about_71 hw rfl rfl ⟨by clear hret hw hl M hK hZ hx hb; unfold abtV; rw [if_neg (by omega), if_neg (by omega), if_pos (by omega)]; exact congrArg nI (by omega), rfl⟩
    refine lv_iconst (v := (nI 1)) hx hb dX5_about_66 (by decide) ?_
    refine lv_goto (tgt := 71) hx hb dX5_about_67 (by decide) ?_
    exact hret _ _ _ (nI 1) _ _ dX5_about_71 hw rfl rfl ⟨by clear hret hw hl M hK hZ hx hb; unfold abtV; rw [if_neg (by omega), if_neg (by omega), if_pos (by omega)]; exact congrArg nI (by omega), rfl⟩
  · refine x_topN (n := 3) (congrArg nI e_1) ?_
    refine lv_tableIn (tgt := 72) hx hb dX5_about_1 (by decide) (by decide) rfl (by decide) ?_
    refine lv_aload_n hx hb dX5_about_72 rfl (lv_at hl 0 rfl) ?_
    refine x_get M hK hw 0 0 rfl rfl ff_X5_10 rfl dX5_about_73 ?_
    refine x_cVI (As := []) (k_X1_scarceKinds l G Y h0 ρ γ (hI)) cw_X5_102 [1] 1 0 M hK hZ hw hl.1 rfl (by decide) rfl rfl rfl ⟨by decide, by decide⟩ ⟨Nat.zero_le _, Nat.zero_le _⟩ rfl rfl (Nat.le_of_ble_eq_true rfl) dX5_about_76 (fun r sg h_3 H locs hw => ?_)
    obtain ⟨rfl, rfl⟩ := h_3
    have hw : xW G A s.heap [[(xo, .inr (4, [.ref h0, .ref h1, .ref hh, .ref sl, .ref sv, .ref tz, .ref az]))], aucW Y h0 ρ γ] H locs := hw
    exact hret _ _ _ (nI (scarce ρ)) _ _ dX5_about_79 hw rfl rfl ⟨by clear hret hw hl M hK hZ hx hb; unfold abtV; rw [if_neg (by omega), if_neg (by omega), if_neg (by omega), if_pos (by omega)], rfl⟩
  · refine x_topN (n := 4) (congrArg nI e_1) ?_
    refine lv_tableIn (tgt := 80) hx hb dX5_about_1 (by decide) (by decide) rfl (by decide) ?_
    refine lv_aload_n hx hb dX5_about_80 rfl (lv_at hl 0 rfl) ?_
    refine x_get M hK hw 0 0 rfl rfl ff_X5_10 rfl dX5_about_81 ?_
    refine x_cVI (As := []) (k_X1_allPacks l G Y h0 ρ γ (hI)) cw_X5_105 [1] 1 0 M hK hZ hw hl.1 rfl (by decide) rfl rfl rfl ⟨by decide, by decide⟩ ⟨Nat.zero_le _, Nat.zero_le _⟩ rfl rfl (Nat.le_of_ble_eq_true rfl) dX5_about_84 (fun r sg h_4 H locs hw => ?_)
    obtain ⟨rfl, rfl⟩ := h_4
    have hw : xW G A s.heap [[(xo, .inr (4, [.ref h0, .ref h1, .ref hh, .ref sl, .ref sv, .ref tz, .ref az]))], aucW Y h0 ρ γ] H locs := hw
    exact hret _ _ _ (nI (allPck ρ)) _ _ dX5_about_87 hw rfl rfl ⟨by clear hret hw hl M hK hZ hx hb; unfold abtV; rw [if_neg (by omega), if_neg (by omega), if_neg (by omega), if_neg (by omega), if_pos (by omega)], rfl⟩
  · refine x_topN (n := 5) (congrArg nI e_1) ?_
    refine lv_tableIn (tgt := 88) hx hb dX5_about_1 (by decide) (by decide) rfl (by decide) ?_
    refine lv_aload_n hx hb dX5_about_88 rfl (lv_at hl 0 rfl) ?_
    refine x_get M hK hw 0 0 rfl rfl ff_X5_10 rfl dX5_about_89 ?_
    refine x_cVI (As := []) (k_X1_allCosts l G Y h0 ρ γ (hI)) cw_X5_108 [1] 1 0 M hK hZ hw hl.1 rfl (by decide) rfl rfl rfl ⟨by decide, by decide⟩ ⟨Nat.zero_le _, Nat.zero_le _⟩ rfl rfl (Nat.le_of_ble_eq_true rfl) dX5_about_92 (fun r sg h_5 H locs hw => ?_)
    obtain ⟨rfl, rfl⟩ := h_5
    have hw : xW G A s.heap [[(xo, .inr (4, [.ref h0, .ref h1, .ref hh, .ref sl, .ref sv, .ref tz, .ref az]))], aucW Y h0 ρ γ] H locs := hw
    exact hret _ _ _ (nI (allCost ρ)) _ _ dX5_about_95 hw rfl rfl ⟨by clear hret hw hl M hK hZ hx hb; unfold abtV; rw [if_neg (by omega), if_neg (by omega), if_neg (by omega), if_neg (by omega), if_neg (by omega)], rfl⟩
set_option maxHeartbeats 4000000 in
set_option maxRecDepth 20000 in
theorem t_X5_about (l : Launch) (hfl : l.stackTraces = false) (G : va_G) (Y : Nat → Nat) (xo h0 h1 hh sl sv tz az : Nat) (w : Int32) (ρ : Nat → Nat) (γ : Nat → Nat → Nat) (hk : (!inZ w.toInt 0 5) = true) : CtT l yX5_about cX5_about 2 (some .int) 6 82 [.ref xo, .int w] [[(xo, .inr (4, [.ref h0, .ref h1, .ref hh, .ref sl, .ref sv, .ref tz, .ref az]))], aucW Y h0 ρ γ] eIAE G Y := by
  refine x_ofT (by decide) (Nat.le_of_ble_eq_true rfl) (fun p e s m args below meth c A ls Q M hK hZ hw hl htab hlk hQ => ?_)
  obtain ⟨hx, hb, -⟩ := id M
  have hl : lv_has ls 2 [(0, .ref xo), (1, .int w)] := hl
  refine lv_iload_n hx hb dX5_about_0 rfl (lv_at hl 1 rfl) ?_
  refine lv_tableOut (tgt := 96) hx hb dX5_about_1 (by have h9 := hk; simp only [inZ, Bool.not_eq_true', decide_eq_false_iff_not] at h9; omega) (by decide) ?_
  exact x_throwS (own := RX5) (ik := 52) (ic := 56) (is := 111) (q := 215) (text := "what is not 0 to 5") hfl M hK hZ hw hl.1 htab hlk hQ thr_IAE (by simp [xStr]) dX5_about_96 dX5_about_99 dX5_about_100 dX5_about_102 dX5_about_105 ⟨by decide, by decide, by decide, by decide⟩
set_option maxHeartbeats 4000000 in
set_option maxRecDepth 20000 in
theorem k_X5_kind (l : Launch) (G : va_G) (Y : Nat → Nat) (xo h0 h1 hh sl sv tz az : Nat) (k w : Nat) (ρ : Nat → Nat) (γ : Nat → Nat → Nat) (hI : Inv ρ) (hk : k < 3) (hw4 : w < 4) : CtI l yX5_kind cX5_kind 3 .int 3 63 [.ref xo, .int (nI k), .int (nI w)] [[(xo, .inr (4, [.ref h0, .ref h1, .ref hh, .ref sl, .ref sv, .ref tz, .ref az]))], aucW Y h0 ρ γ] (fun r sg => r = nI (kndV ρ k w) ∧ sg = [[(xo, .inr (4, [.ref h0, .ref h1, .ref hh, .ref sl, .ref sv, .ref tz, .ref az]))], aucW Y h0 ρ γ]) G Y := by
  refine x_ofI (by decide) (Nat.le_of_ble_eq_true rfl) (fun p e s m args below meth c A ls Q M hK hZ hw hl hret => ?_)
  obtain ⟨hx, hb, -⟩ := id M
  have hl : lv_has ls 3 [(0, .ref xo), (1, .int (nI k)), (2, .int (nI w))] := hl
  have := hI.n6
  have := hI.over
  have := hI.keep
  have := hI.stepp
  refine lv_aload_n hx hb dX5_kind_0 rfl (lv_at hl 0 rfl) ?_
  refine lv_iload_n hx hb dX5_kind_1 rfl (lv_at hl 1 rfl) ?_
  refine x_cVV (As := [.int (nI k)]) (k_X5_needKind l G Y xo h0 h1 hh sl sv tz az k (by omega)) cw_X5_113 [0] 0 0 M hK hZ hw hl.1 rfl (by decide) rfl rfl rfl ⟨by decide, by decide⟩ ⟨Nat.zero_le _, Nat.zero_le _⟩ rfl rfl (Nat.le_of_ble_eq_true rfl) dX5_kind_2 (fun sg h_1 H locs hw => ?_)
  obtain rfl := h_1
  have hw : xW G A s.heap [[(xo, .inr (4, [.ref h0, .ref h1, .ref hh, .ref sl, .ref sv, .ref tz, .ref az]))], aucW Y h0 ρ γ] H locs := hw
  refine lv_iload_n hx hb dX5_kind_5 rfl (lv_at hl 2 rfl) ?_
  rcases (show w = 0 ∨ w = 1 ∨ w = 2 ∨ w = 3 by omega) with e_2 | e_2 | e_2 | e_2
  · refine x_topN (n := 0) (congrArg nI e_2) ?_
    refine lv_tableIn (tgt := 36) hx hb dX5_kind_6 (by decide) (by decide) rfl (by decide) ?_
    refine lv_aload_n hx hb dX5_kind_36 rfl (lv_at hl 0 rfl) ?_
    refine x_get M hK hw 0 0 rfl rfl ff_X5_10 rfl dX5_kind_37 ?_
    refine x_get M hK hw 1 0 rfl rfl ff_X5_117 rfl dX5_kind_40 ?_
    refine lv_iload_n hx hb dX5_kind_43 rfl (lv_at hl 1 rfl) ?_
    refine x_iald M hK hw 1 1 rfl rfl (by omega) (by decide) dX5_kind_44 ?_
    refine x_topN (n := ρ (5 + k)) (congrArg (fun q => nI (ρ q)) (by omega)) ?_
    have q_3 : 1 ≤ ρ (5 + k) := (hI.sup (k := k) (by omega) rfl).1
    have q_4 : ρ (5 + k) ≤ 9 := (hI.sup (k := k) (by omega) rfl).2
    exact hret _ _ _ (nI (ρ (5 + k))) _ _ dX5_kind_45 hw rfl rfl ⟨by clear hret hw hl M hK hZ hx hb; unfold kndV; rw [if_pos (by omega)], rfl⟩
  · refine x_topN (n := 1) (congrArg nI e_2) ?_
    refine lv_tableIn (tgt := 46) hx hb dX5_kind_6 (by decide) (by decide) rfl (by decide) ?_
    refine lv_aload_n hx hb dX5_kind_46 rfl (lv_at hl 0 rfl) ?_
    refine x_get M hK hw 0 0 rfl rfl ff_X5_10 rfl dX5_kind_47 ?_
    refine x_get M hK hw 1 0 rfl rfl ff_X5_121 rfl dX5_kind_50 ?_
    refine lv_iload_n hx hb dX5_kind_53 rfl (lv_at hl 1 rfl) ?_
    refine x_iald M hK hw 1 2 rfl rfl (by omega) (by decide) dX5_kind_54 ?_
    refine x_topN (n := ρ (8 + k)) (congrArg (fun q => nI (ρ q)) (by omega)) ?_
    have q_5 : 1 ≤ ρ (8 + k) := (hI.pts (k := k) (by omega) rfl).1
    have q_6 : ρ (8 + k) ≤ 9 := (hI.pts (k := k) (by omega) rfl).2
    exact hret _ _ _ (nI (ρ (8 + k))) _ _ dX5_kind_55 hw rfl rfl ⟨by clear hret hw hl M hK hZ hx hb; unfold kndV; rw [if_neg (by omega), if_pos (by omega)], rfl⟩
  · refine x_topN (n := 2) (congrArg nI e_2) ?_
    refine lv_tableIn (tgt := 56) hx hb dX5_kind_6 (by decide) (by decide) rfl (by decide) ?_
    refine lv_aload_n hx hb dX5_kind_56 rfl (lv_at hl 0 rfl) ?_
    refine x_get M hK hw 0 0 rfl rfl ff_X5_10 rfl dX5_kind_57 ?_
    refine x_get M hK hw 1 0 rfl rfl ff_X5_124 rfl dX5_kind_60 ?_
    refine lv_iload_n hx hb dX5_kind_63 rfl (lv_at hl 1 rfl) ?_
    refine x_iald M hK hw 1 3 rfl rfl (by omega) (by decide) dX5_kind_64 ?_
    refine x_topN (n := ρ (11 + k)) (congrArg (fun q => nI (ρ q)) (by omega)) ?_
    have q_7 : 1 ≤ ρ (11 + k) := (hI.pri (k := k) (by omega) rfl).1
    have q_8 : ρ (11 + k) ≤ 99999 := (hI.pri (k := k) (by omega) rfl).2
    exact hret _ _ _ (nI (ρ (11 + k))) _ _ dX5_kind_65 hw rfl rfl ⟨by clear hret hw hl M hK hZ hx hb; unfold kndV; rw [if_neg (by omega), if_neg (by omega), if_pos (by omega)], rfl⟩
  · refine x_topN (n := 3) (congrArg nI e_2) ?_
    refine lv_tableIn (tgt := 66) hx hb dX5_kind_6 (by decide) (by decide) rfl (by decide) ?_
    refine lv_aload_n hx hb dX5_kind_66 rfl (lv_at hl 0 rfl) ?_
    refine x_get M hK hw 0 0 rfl rfl ff_X5_10 rfl dX5_kind_67 ?_
    refine lv_iload_n hx hb dX5_kind_70 rfl (lv_at hl 1 rfl) ?_
    refine x_cVI (As := [.int (nI k)]) (k_X1_askedOf l G Y h0 k ρ γ (hI) (by omega)) cw_X5_127 [1] 1 0 M hK hZ hw hl.1 rfl (by decide) rfl rfl rfl ⟨by decide, by decide⟩ ⟨Nat.zero_le _, Nat.zero_le _⟩ rfl rfl (Nat.le_of_ble_eq_true rfl) dX5_kind_71 (fun r sg h_9 H locs hw => ?_)
    obtain ⟨rfl, rfl⟩ := h_9
    have hw : xW G A s.heap [[(xo, .inr (4, [.ref h0, .ref h1, .ref hh, .ref sl, .ref sv, .ref tz, .ref az]))], aucW Y h0 ρ γ] H locs := hw
    have q_10 : askedOf ρ k ≤ 54 := askedOf_le hI (by omega)
    exact hret _ _ _ (nI (askedOf ρ k)) _ _ dX5_kind_74 hw rfl rfl ⟨by clear hret hw hl M hK hZ hx hb; unfold kndV; rw [if_neg (by omega), if_neg (by omega), if_neg (by omega)], rfl⟩
set_option maxHeartbeats 4000000 in
set_option maxRecDepth 20000 in
theorem t_X5_kind_1 (l : Launch) (hfl : l.stackTraces = false) (G : va_G) (Y : Nat → Nat) (xo h0 h1 hh sl sv tz az : Nat) (k w : Int32) (ρ : Nat → Nat) (γ : Nat → Nat → Nat) (hk : (!inZ k.toInt 0 2) = true) : CtT l yX5_kind cX5_kind 3 (some .int) 7 103 [.ref xo, .int k, .int w] [[(xo, .inr (4, [.ref h0, .ref h1, .ref hh, .ref sl, .ref sv, .ref tz, .ref az]))], aucW Y h0 ρ γ] eIOB G Y := by
  refine x_ofT (by decide) (Nat.le_of_ble_eq_true rfl) (fun p e s m args below meth c A ls Q M hK hZ hw hl htab hlk hQ => ?_)
  obtain ⟨hx, hb, -⟩ := id M
  have hl : lv_has ls 3 [(0, .ref xo), (1, .int k), (2, .int w)] := hl
  refine lv_aload_n hx hb dX5_kind_0 rfl (lv_at hl 0 rfl) ?_
  refine lv_iload_n hx hb dX5_kind_1 rfl (lv_at hl 1 rfl) ?_
  exact x_cVT (As := [.int k]) (t_X5_needKind l hfl G Y xo h0 h1 hh sl sv tz az k (by omega)) cw_X5_113 [0] 0 0 M hK hZ hw hl.1 rfl (by decide) rfl rfl rfl ⟨by decide, by decide⟩ ⟨by decide, by decide⟩ rfl rfl (Nat.le_of_ble_eq_true rfl) dX5_kind_2 htab hlk hQ
set_option maxHeartbeats 4000000 in
set_option maxRecDepth 20000 in
theorem t_X5_kind_2 (l : Launch) (hfl : l.stackTraces = false) (G : va_G) (Y : Nat → Nat) (xo h0 h1 hh sl sv tz az : Nat) (k : Nat) (w : Int32) (ρ : Nat → Nat) (γ : Nat → Nat → Nat) (hk3 : k < 3) (hk : (!inZ w.toInt 0 3) = true) : CtT l yX5_kind cX5_kind 3 (some .int) 6 82 [.ref xo, .int (nI k), .int w] [[(xo, .inr (4, [.ref h0, .ref h1, .ref hh, .ref sl, .ref sv, .ref tz, .ref az]))], aucW Y h0 ρ γ] eIAE G Y := by
  refine x_ofT (by decide) (Nat.le_of_ble_eq_true rfl) (fun p e s m args below meth c A ls Q M hK hZ hw hl htab hlk hQ => ?_)
  obtain ⟨hx, hb, -⟩ := id M
  have hl : lv_has ls 3 [(0, .ref xo), (1, .int (nI k)), (2, .int w)] := hl
  refine lv_aload_n hx hb dX5_kind_0 rfl (lv_at hl 0 rfl) ?_
  refine lv_iload_n hx hb dX5_kind_1 rfl (lv_at hl 1 rfl) ?_
  refine x_cVV (As := [.int (nI k)]) (k_X5_needKind l G Y xo h0 h1 hh sl sv tz az k (by omega)) cw_X5_113 [0] 0 0 M hK hZ hw hl.1 rfl (by decide) rfl rfl rfl ⟨by decide, by decide⟩ ⟨Nat.zero_le _, Nat.zero_le _⟩ rfl rfl (Nat.le_of_ble_eq_true rfl) dX5_kind_2 (fun sg h_1 H locs hw => ?_)
  obtain rfl := h_1
  have hw : xW G A s.heap [[(xo, .inr (4, [.ref h0, .ref h1, .ref hh, .ref sl, .ref sv, .ref tz, .ref az]))], aucW Y h0 ρ γ] H locs := hw
  refine lv_iload_n hx hb dX5_kind_5 rfl (lv_at hl 2 rfl) ?_
  refine lv_tableOut (tgt := 75) hx hb dX5_kind_6 (by have h9 := hk; simp only [inZ, Bool.not_eq_true', decide_eq_false_iff_not] at h9; omega) (by decide) ?_
  exact x_throwS (own := RX5) (ik := 52) (ic := 56) (is := 131) (q := 217) (text := "what is not 0 to 3") hfl M hK hZ hw hl.1 htab hlk hQ thr_IAE (by simp [xStr]) dX5_kind_75 dX5_kind_78 dX5_kind_79 dX5_kind_81 dX5_kind_84 ⟨by decide, by decide, by decide, by decide⟩
set_option maxHeartbeats 4000000 in
set_option maxRecDepth 20000 in
theorem k_X5_bidder (l : Launch) (G : va_G) (Y : Nat → Nat) (xo h0 h1 hh sl sv tz az : Nat) (j w : Nat) (ρ : Nat → Nat) (γ : Nat → Nat → Nat) (hI : Inv ρ) (hj : j < ρ 4) (hw5 : w < 5) : CtI l yX5_bidder cX5_bidder 3 .int 3 66 [.ref xo, .int (nI j), .int (nI w)] [[(xo, .inr (4, [.ref h0, .ref h1, .ref hh, .ref sl, .ref sv, .ref tz, .ref az]))], aucW Y h0 ρ γ] (fun r sg => r = bidV ρ j w ∧ sg = [[(xo, .inr (4, [.ref h0, .ref h1, .ref hh, .ref sl, .ref sv, .ref tz, .ref az]))], aucW Y h0 ρ γ]) G Y := by
  refine x_ofI (by decide) (Nat.le_of_ble_eq_true rfl) (fun p e s m args below meth c A ls Q M hK hZ hw hl hret => ?_)
  obtain ⟨hx, hb, -⟩ := id M
  have hl : lv_has ls 3 [(0, .ref xo), (1, .int (nI j)), (2, .int (nI w))] := hl
  have := hI.n6
  have := hI.over
  have := hI.keep
  have := hI.stepp
  refine lv_aload_n hx hb dX5_bidder_0 rfl (lv_at hl 0 rfl) ?_
  refine lv_iload_n hx hb dX5_bidder_1 rfl (lv_at hl 1 rfl) ?_
  refine x_cVV (As := [.int (nI j)]) (k_X5_needBidder l G Y xo h0 h1 hh sl sv tz az j ρ γ (hI) (by omega)) cw_X5_133 [0, 1] 0 0 M hK hZ hw hl.1 rfl (by decide) rfl rfl rfl ⟨by decide, by decide⟩ ⟨Nat.zero_le _, Nat.zero_le _⟩ rfl rfl (Nat.le_of_ble_eq_true rfl) dX5_bidder_2 (fun sg h_1 H locs hw => ?_)
  obtain rfl := h_1
  have hw : xW G A s.heap [[(xo, .inr (4, [.ref h0, .ref h1, .ref hh, .ref sl, .ref sv, .ref tz, .ref az]))], aucW Y h0 ρ γ] H locs := hw
  refine lv_iload_n hx hb dX5_bidder_5 rfl (lv_at hl 2 rfl) ?_
  rcases (show w = 0 ∨ w = 1 ∨ w = 2 ∨ w = 3 ∨ w = 4 by omega) with e_2 | e_2 | e_2 | e_2 | e_2
  · refine x_topN (n := 0) (congrArg nI e_2) ?_
    refine lv_tableIn (tgt := 40) hx hb dX5_bidder_6 (by decide) (by decide) rfl (by decide) ?_
    refine lv_aload_n hx hb dX5_bidder_40 rfl (lv_at hl 0 rfl) ?_
    refine x_get M hK hw 0 0 rfl rfl ff_X5_10 rfl dX5_bidder_41 ?_
    refine x_get M hK hw 1 0 rfl rfl ff_X5_136 rfl dX5_bidder_44 ?_
    refine lv_iload_n hx hb dX5_bidder_47 rfl (lv_at hl 1 rfl) ?_
    refine x_iald M hK hw 1 4 rfl rfl (by omega) (by decide) dX5_bidder_48 ?_
    refine x_topN (n := ρ (14 + 21 * j)) (congrArg nI (rgt_at (j := j) (by omega) rfl (by omega))) ?_
    have q_3 : ρ (14 + 21 * j) ≤ 99 := hI.rgt (j := j) (by omega) (by omega)
    exact hret _ _ _ (nI (ρ (14 + 21 * j))) _ _ dX5_bidder_49 hw rfl rfl ⟨by clear hret hw hl M hK hZ hx hb; unfold bidV; rw [if_pos (by omega)], rfl⟩
  · refine x_topN (n := 1) (congrArg nI e_2) ?_
    refine lv_tableIn (tgt := 50) hx hb dX5_bidder_6 (by decide) (by decide) rfl (by decide) ?_
    refine lv_aload_n hx hb dX5_bidder_50 rfl (lv_at hl 0 rfl) ?_
    refine x_get M hK hw 0 0 rfl rfl ff_X5_10 rfl dX5_bidder_51 ?_
    refine x_get M hK hw 1 0 rfl rfl ff_X5_139 rfl dX5_bidder_54 ?_
    refine lv_iload_n hx hb dX5_bidder_57 rfl (lv_at hl 1 rfl) ?_
    refine x_iald M hK hw 1 5 rfl rfl (by omega) (by decide) dX5_bidder_58 ?_
    refine x_topN (n := ρ (15 + 21 * j)) (congrArg nI (cap_at (j := j) (by omega) rfl (by omega))) ?_
    have q_4 : 1 ≤ ρ (15 + 21 * j) := (hI.cap (j := j) (by omega) (by omega)).1
    have q_5 : ρ (15 + 21 * j) ≤ 9 := (hI.cap (j := j) (by omega) (by omega)).2
    exact hret _ _ _ (nI (ρ (15 + 21 * j))) _ _ dX5_bidder_59 hw rfl rfl ⟨by clear hret hw hl M hK hZ hx hb; unfold bidV; rw [if_neg (by omega), if_pos (by omega)], rfl⟩
  · refine x_topN (n := 2) (congrArg nI e_2) ?_
    refine lv_tableIn (tgt := 60) hx hb dX5_bidder_6 (by decide) (by decide) rfl (by decide) ?_
    refine lv_aload_n hx hb dX5_bidder_60 rfl (lv_at hl 0 rfl) ?_
    refine x_get M hK hw 0 0 rfl rfl ff_X5_10 rfl dX5_bidder_61 ?_
    refine lv_iload_n hx hb dX5_bidder_64 rfl (lv_at hl 1 rfl) ?_
    refine x_cVI (As := [.int (nI j)]) (k_X1_activity l G Y h0 j ρ γ (hI) (by omega)) cw_X5_142 [1] 1 0 M hK hZ hw hl.1 rfl (by decide) rfl rfl rfl ⟨by decide, by decide⟩ ⟨Nat.zero_le _, Nat.zero_le _⟩ rfl rfl (Nat.le_of_ble_eq_true rfl) dX5_bidder_65 (fun r sg h_6 H locs hw => ?_)
    obtain ⟨rfl, rfl⟩ := h_6
    have hw : xW G A s.heap [[(xo, .inr (4, [.ref h0, .ref h1, .ref hh, .ref sl, .ref sv, .ref tz, .ref az]))], aucW Y h0 ρ γ] H locs := hw
    have q_7 : act ρ j ≤ 243 := act_le hI (by omega)
    exact hret _ _ _ (nI (act ρ j)) _ _ dX5_bidder_68 hw rfl rfl ⟨by clear hret hw hl M hK hZ hx hb; unfold bidV; rw [if_neg (by omega), if_neg (by omega), if_pos (by omega)], rfl⟩
  · refine x_topN (n := 3) (congrArg nI e_2) ?_
    refine lv_tableIn (tgt := 69) hx hb dX5_bidder_6 (by decide) (by decide) rfl (by decide) ?_
    refine lv_aload_n hx hb dX5_bidder_69 rfl (lv_at hl 0 rfl) ?_
    refine x_get M hK hw 0 0 rfl rfl ff_X5_10 rfl dX5_bidder_70 ?_
    refine x_get M hK hw 1 0 rfl rfl ff_X5_145 rfl dX5_bidder_73 ?_
    refine lv_iload_n hx hb dX5_bidder_76 rfl (lv_at hl 1 rfl) ?_
    refine x_iald M hK hw 1 6 rfl rfl (by omega) (by decide) dX5_bidder_77 ?_
    refine x_topN (n := ρ (22 + 21 * j)) (congrArg nI (pck_at (j := j) (by omega) rfl (by omega))) ?_
    have q_8 : ρ (22 + 21 * j) ≤ 3 := hI.pck (j := j) (by omega) (by omega)
    exact hret _ _ _ (nI (ρ (22 + 21 * j))) _ _ dX5_bidder_78 hw rfl rfl ⟨by clear hret hw hl M hK hZ hx hb; unfold bidV; rw [if_neg (by omega), if_neg (by omega), if_neg (by omega), if_pos (by omega)], rfl⟩
  · refine x_topN (n := 4) (congrArg nI e_2) ?_
    refine lv_tableIn (tgt := 79) hx hb dX5_bidder_6 (by decide) (by decide) rfl (by decide) ?_
    refine lv_aload_n hx hb dX5_bidder_79 rfl (lv_at hl 0 rfl) ?_
    refine x_get M hK hw 0 0 rfl rfl ff_X5_10 rfl dX5_bidder_80 ?_
    refine lv_iload_n hx hb dX5_bidder_83 rfl (lv_at hl 1 rfl) ?_
    refine x_cVI (As := [.int (nI j)]) (k_X1_profit l G Y h0 j ρ γ (hI) (by omega)) cw_X5_148 [1] 1 0 M hK hZ hw hl.1 rfl (by decide) rfl rfl rfl ⟨by decide, by decide⟩ ⟨Nat.zero_le _, Nat.zero_le _⟩ rfl rfl (Nat.le_of_ble_eq_true rfl) dX5_bidder_84 (fun r sg h_9 H locs hw => ?_)
    obtain ⟨rfl, rfl⟩ := h_9
    have hw : xW G A s.heap [[(xo, .inr (4, [.ref h0, .ref h1, .ref hh, .ref sl, .ref sv, .ref tz, .ref az]))], aucW Y h0 ρ γ] H locs := hw
    exact hret _ _ _ (prof ρ j) _ _ dX5_bidder_87 hw rfl rfl ⟨by clear hret hw hl M hK hZ hx hb; unfold bidV; rw [if_neg (by omega), if_neg (by omega), if_neg (by omega), if_neg (by omega)], rfl⟩
set_option maxHeartbeats 4000000 in
set_option maxRecDepth 20000 in
theorem t_X5_bidder_1 (l : Launch) (hfl : l.stackTraces = false) (G : va_G) (Y : Nat → Nat) (xo h0 h1 hh sl sv tz az : Nat) (b w : Int32) (ρ : Nat → Nat) (γ : Nat → Nat → Nat) (hI : Inv ρ) (hk : (!inZ b.toInt 0 ((ρ 4 : Int) - 1)) = true) : CtT l yX5_bidder cX5_bidder 3 (some .int) 7 103 [.ref xo, .int b, .int w] [[(xo, .inr (4, [.ref h0, .ref h1, .ref hh, .ref sl, .ref sv, .ref tz, .ref az]))], aucW Y h0 ρ γ] eIOB G Y := by
  refine x_ofT (by decide) (Nat.le_of_ble_eq_true rfl) (fun p e s m args below meth c A ls Q M hK hZ hw hl htab hlk hQ => ?_)
  obtain ⟨hx, hb, -⟩ := id M
  have hl : lv_has ls 3 [(0, .ref xo), (1, .int b), (2, .int w)] := hl
  refine lv_aload_n hx hb dX5_bidder_0 rfl (lv_at hl 0 rfl) ?_
  refine lv_iload_n hx hb dX5_bidder_1 rfl (lv_at hl 1 rfl) ?_
  exact x_cVT (As := [.int b]) (t_X5_needBidder l hfl G Y xo h0 h1 hh sl sv tz az b ρ γ (hI) (by omega)) cw_X5_133 [0, 1] 0 0 M hK hZ hw hl.1 rfl (by decide) rfl rfl rfl ⟨by decide, by decide⟩ ⟨by decide, by decide⟩ rfl rfl (Nat.le_of_ble_eq_true rfl) dX5_bidder_2 htab hlk hQ
set_option maxHeartbeats 4000000 in
set_option maxRecDepth 20000 in
theorem t_X5_bidder_2 (l : Launch) (hfl : l.stackTraces = false) (G : va_G) (Y : Nat → Nat) (xo h0 h1 hh sl sv tz az : Nat) (j : Nat) (w : Int32) (ρ : Nat → Nat) (γ : Nat → Nat → Nat) (hI : Inv ρ) (hj : j < ρ 4) (hk : (!inZ w.toInt 0 4) = true) : CtT l yX5_bidder cX5_bidder 3 (some .int) 6 82 [.ref xo, .int (nI j), .int w] [[(xo, .inr (4, [.ref h0, .ref h1, .ref hh, .ref sl, .ref sv, .ref tz, .ref az]))], aucW Y h0 ρ γ] eIAE G Y := by
  refine x_ofT (by decide) (Nat.le_of_ble_eq_true rfl) (fun p e s m args below meth c A ls Q M hK hZ hw hl htab hlk hQ => ?_)
  obtain ⟨hx, hb, -⟩ := id M
  have hl : lv_has ls 3 [(0, .ref xo), (1, .int (nI j)), (2, .int w)] := hl
  have := hI.n6
  refine lv_aload_n hx hb dX5_bidder_0 rfl (lv_at hl 0 rfl) ?_
  refine lv_iload_n hx hb dX5_bidder_1 rfl (lv_at hl 1 rfl) ?_
  refine x_cVV (As := [.int (nI j)]) (k_X5_needBidder l G Y xo h0 h1 hh sl sv tz az j ρ γ (hI) (by omega)) cw_X5_133 [0, 1] 0 0 M hK hZ hw hl.1 rfl (by decide) rfl rfl rfl ⟨by decide, by decide⟩ ⟨Nat.zero_le _, Nat.zero_le _⟩ rfl rfl (Nat.le_of_ble_eq_true rfl) dX5_bidder_2 (fun sg h_1 H locs hw => ?_)
  obtain rfl := h_1
  have hw : xW G A s.heap [[(xo, .inr (4, [.ref h0, .ref h1, .ref hh, .ref sl, .ref sv, .ref tz, .ref az]))], aucW Y h0 ρ γ] H locs := hw
  refine lv_iload_n hx hb dX5_bidder_5 rfl (lv_at hl 2 rfl) ?_
  refine lv_tableOut (tgt := 88) hx hb dX5_bidder_6 (by have h9 := hk; simp only [inZ, Bool.not_eq_true', decide_eq_false_iff_not] at h9; omega) (by decide) ?_
  exact x_throwS (own := RX5) (ik := 52) (ic := 56) (is := 151) (q := 219) (text := "what is not 0 to 4") hfl M hK hZ hw hl.1 htab hlk hQ thr_IAE (by simp [xStr]) dX5_bidder_88 dX5_bidder_91 dX5_bidder_92 dX5_bidder_94 dX5_bidder_97 ⟨by decide, by decide, by decide, by decide⟩
set_option maxHeartbeats 4000000 in
set_option maxRecDepth 20000 in
theorem k_X5_demand (l : Launch) (G : va_G) (Y : Nat → Nat) (xo h0 h1 hh sl sv tz az : Nat) (j k : Nat) (ρ : Nat → Nat) (γ : Nat → Nat → Nat) (hI : Inv ρ) (hj : j < ρ 4) (hk : k < 3) : CtI l yX5_demand cX5_demand 3 .int 3 64 [.ref xo, .int (nI j), .int (nI k)] [[(xo, .inr (4, [.ref h0, .ref h1, .ref hh, .ref sl, .ref sv, .ref tz, .ref az]))], aucW Y h0 ρ γ] (fun r sg => r = nI (ρ (19 + 21 * j + k)) ∧ sg = [[(xo, .inr (4, [.ref h0, .ref h1, .ref hh, .ref sl, .ref sv, .ref tz, .ref az]))], aucW Y h0 ρ γ]) G Y := by
  refine x_ofI (by decide) (Nat.le_of_ble_eq_true rfl) (fun p e s m args below meth c A ls Q M hK hZ hw hl hret => ?_)
  obtain ⟨hx, hb, -⟩ := id M
  have hl : lv_has ls 3 [(0, .ref xo), (1, .int (nI j)), (2, .int (nI k))] := hl
  have := hI.n6
  have := hI.over
  have := hI.keep
  have := hI.stepp
  refine lv_aload_n hx hb dX5_demand_0 rfl (lv_at hl 0 rfl) ?_
  refine lv_iload_n hx hb dX5_demand_1 rfl (lv_at hl 1 rfl) ?_
  refine x_cVV (As := [.int (nI j)]) (k_X5_needBidder l G Y xo h0 h1 hh sl sv tz az j ρ γ (hI) (by omega)) cw_X5_133 [0, 1] 0 0 M hK hZ hw hl.1 rfl (by decide) rfl rfl rfl ⟨by decide, by decide⟩ ⟨Nat.zero_le _, Nat.zero_le _⟩ rfl rfl (Nat.le_of_ble_eq_true rfl) dX5_demand_2 (fun sg h_1 H locs hw => ?_)
  obtain rfl := h_1
  have hw : xW G A s.heap [[(xo, .inr (4, [.ref h0, .ref h1, .ref hh, .ref sl, .ref sv, .ref tz, .ref az]))], aucW Y h0 ρ γ] H locs := hw
  refine lv_aload_n hx hb dX5_demand_5 rfl (lv_at hl 0 rfl) ?_
  refine lv_iload_n hx hb dX5_demand_6 rfl (lv_at hl 2 rfl) ?_
  refine x_cVV (As := [.int (nI k)]) (k_X5_needKind l G Y xo h0 h1 hh sl sv tz az k (by omega)) cw_X5_113 [0] 0 0 M hK hZ hw hl.1 rfl (by decide) rfl rfl rfl ⟨by decide, by decide⟩ ⟨Nat.zero_le _, Nat.zero_le _⟩ rfl rfl (Nat.le_of_ble_eq_true rfl) dX5_demand_7 (fun sg h_2 H locs hw => ?_)
  obtain rfl := h_2
  have hw : xW G A s.heap [[(xo, .inr (4, [.ref h0, .ref h1, .ref hh, .ref sl, .ref sv, .ref tz, .ref az]))], aucW Y h0 ρ γ] H locs := hw
  refine lv_aload_n hx hb dX5_demand_10 rfl (lv_at hl 0 rfl) ?_
  refine x_get M hK hw 0 0 rfl rfl ff_X5_10 rfl dX5_demand_11 ?_
  refine x_get M hK hw 1 0 rfl rfl ff_X5_153 rfl dX5_demand_14 ?_
  refine lv_iload_n hx hb dX5_demand_17 rfl (lv_at hl 1 rfl) ?_
  refine lv_iload_n hx hb dX5_demand_18 rfl (lv_at hl 2 rfl) ?_
  refine x_cSI (As := [.int (nI j), .int (nI k)]) (k_X5_cell l G Y j k) cw_X5_156 [] M hK hZ hw hl.1 rfl (by decide) ⟨by decide, by decide⟩ ⟨Nat.zero_le _, Nat.zero_le _⟩ rfl rfl (Nat.le_of_ble_eq_true rfl) dX5_demand_19 (fun r sg h_3 H locs hw => ?_)
  obtain ⟨rfl, rfl⟩ := h_3
  have hw : xW G A s.heap [[(xo, .inr (4, [.ref h0, .ref h1, .ref hh, .ref sl, .ref sv, .ref tz, .ref az]))], aucW Y h0 ρ γ] H locs := hw
  refine x_iald M hK hw 1 8 rfl rfl (by omega) (by decide) dX5_demand_22 ?_
  refine x_topN (n := ρ (19 + 21 * j + k)) (congrArg nI (dem_at (j := j) (k := k) (by omega) (by omega) (by omega) (by omega))) ?_
  have q_4 : ρ (19 + 21 * j + k) ≤ 9 := hI.dem (j := j) (by omega) (k := k) (by omega) (by omega)
  exact hret _ _ _ (nI (ρ (19 + 21 * j + k))) _ _ dX5_demand_23 hw rfl rfl ⟨rfl, rfl⟩
set_option maxHeartbeats 4000000 in
set_option maxRecDepth 20000 in
theorem t_X5_demand_1 (l : Launch) (hfl : l.stackTraces = false) (G : va_G) (Y : Nat → Nat) (xo h0 h1 hh sl sv tz az : Nat) (b k : Int32) (ρ : Nat → Nat) (γ : Nat → Nat → Nat) (hI : Inv ρ) (hk : (!inZ b.toInt 0 ((ρ 4 : Int) - 1)) = true) : CtT l yX5_demand cX5_demand 3 (some .int) 7 103 [.ref xo, .int b, .int k] [[(xo, .inr (4, [.ref h0, .ref h1, .ref hh, .ref sl, .ref sv, .ref tz, .ref az]))], aucW Y h0 ρ γ] eIOB G Y := by
  refine x_ofT (by decide) (Nat.le_of_ble_eq_true rfl) (fun p e s m args below meth c A ls Q M hK hZ hw hl htab hlk hQ => ?_)
  obtain ⟨hx, hb, -⟩ := id M
  have hl : lv_has ls 3 [(0, .ref xo), (1, .int b), (2, .int k)] := hl
  refine lv_aload_n hx hb dX5_demand_0 rfl (lv_at hl 0 rfl) ?_
  refine lv_iload_n hx hb dX5_demand_1 rfl (lv_at hl 1 rfl) ?_
  exact x_cVT (As := [.int b]) (t_X5_needBidder l hfl G Y xo h0 h1 hh sl sv tz az b ρ γ (hI) (by omega)) cw_X5_133 [0, 1] 0 0 M hK hZ hw hl.1 rfl (by decide) rfl rfl rfl ⟨by decide, by decide⟩ ⟨by decide, by decide⟩ rfl rfl (Nat.le_of_ble_eq_true rfl) dX5_demand_2 htab hlk hQ
set_option maxHeartbeats 4000000 in
set_option maxRecDepth 20000 in
theorem t_X5_demand_2 (l : Launch) (hfl : l.stackTraces = false) (G : va_G) (Y : Nat → Nat) (xo h0 h1 hh sl sv tz az : Nat) (j : Nat) (k : Int32) (ρ : Nat → Nat) (γ : Nat → Nat → Nat) (hI : Inv ρ) (hj : j < ρ 4) (hk : (!inZ k.toInt 0 2) = true) : CtT l yX5_demand cX5_demand 3 (some .int) 7 103 [.ref xo, .int (nI j), .int k] [[(xo, .inr (4, [.ref h0, .ref h1, .ref hh, .ref sl, .ref sv, .ref tz, .ref az]))], aucW Y h0 ρ γ] eIOB G Y := by
  refine x_ofT (by decide) (Nat.le_of_ble_eq_true rfl) (fun p e s m args below meth c A ls Q M hK hZ hw hl htab hlk hQ => ?_)
  obtain ⟨hx, hb, -⟩ := id M
  have hl : lv_has ls 3 [(0, .ref xo), (1, .int (nI j)), (2, .int k)] := hl
  have := hI.n6
  refine lv_aload_n hx hb dX5_demand_0 rfl (lv_at hl 0 rfl) ?_
  refine lv_iload_n hx hb dX5_demand_1 rfl (lv_at hl 1 rfl) ?_
  refine x_cVV (As := [.int (nI j)]) (k_X5_needBidder l G Y xo h0 h1 hh sl sv tz az j ρ γ (hI) (by omega)) cw_X5_133 [0, 1] 0 0 M hK hZ hw hl.1 rfl (by decide) rfl rfl rfl ⟨by decide, by decide⟩ ⟨Nat.zero_le _, Nat.zero_le _⟩ rfl rfl (Nat.le_of_ble_eq_true rfl) dX5_demand_2 (fun sg h_1 H locs hw => ?_)
  obtain rfl := h_1
  have hw : xW G A s.heap [[(xo, .inr (4, [.ref h0, .ref h1, .ref hh, .ref sl, .ref sv, .ref tz, .ref az]))], aucW Y h0 ρ γ] H locs := hw
  refine lv_aload_n hx hb dX5_demand_5 rfl (lv_at hl 0 rfl) ?_
  refine lv_iload_n hx hb dX5_demand_6 rfl (lv_at hl 2 rfl) ?_
  exact x_cVT (As := [.int k]) (t_X5_needKind l hfl G Y xo h0 h1 hh sl sv tz az k (by omega)) cw_X5_113 [0] 0 0 M hK hZ hw hl.1 rfl (by decide) rfl rfl rfl ⟨by decide, by decide⟩ ⟨by decide, by decide⟩ rfl rfl (Nat.le_of_ble_eq_true rfl) dX5_demand_7 htab hlk hQ
