def hisW (Y : Nat → Nat) (z q nx ct : Nat) : va_W := [(z, .inr (2, [.ref (z + 1), .int (nI nx), .int (nI ct)])), (z + 1, .inl (Y 4, 14, .inr (.inr (.inr (.inr (fun k => some (q + 11 * k)))))))]
set_option maxHeartbeats 4000000 in
set_option maxRecDepth 20000 in
theorem k_X2_isEmpty (l : Launch) (G : va_G) (Y : Nat → Nat) (hh hb2 nx ct : Nat) (hct : ct ≤ 14) : CtI l yX2_isEmpty cX2_isEmpty 1 .boolean 0 0 [.ref hh] [hisW Y hh hb2 nx ct] (fun r sg => r = b2i (decide (ct = 0)) ∧ sg = [hisW Y hh hb2 nx ct]) G Y := by
  refine x_ofI (by decide) (Nat.le_of_ble_eq_true rfl) (fun p e s m args below meth c A ls Q M hK hZ hw hl hret => ?_)
  obtain ⟨hx, hb, -⟩ := id M
  have hl : lv_has ls 1 [(0, .ref hh)] := hl
  refine lv_aload_n hx hb dX2_isEmpty_0 rfl (lv_at hl 0 rfl) ?_
  refine x_get M hK hw 0 0 rfl rfl ff_X2_18 rfl dX2_isEmpty_1 ?_
  refine x_zne M (tgt := 11) (by omega) dX2_isEmpty_4 (by decide) (fun c_1 => ?_) (fun c_1 => ?_)
  · refine lv_iconst (v := (nI 0)) hx hb dX2_isEmpty_11 (by decide) ?_
    exact hret _ _ _ (nI 0) _ _ dX2_isEmpty_12 hw rfl rfl ⟨b2i_f (decide_eq_false (by omega)), rfl⟩
  refine lv_iconst (v := (nI 1)) hx hb dX2_isEmpty_7 (by decide) ?_
  refine lv_goto (tgt := 12) hx hb dX2_isEmpty_8 (by decide) ?_
  exact hret _ _ _ (nI 1) _ _ dX2_isEmpty_12 hw rfl rfl ⟨b2i_t (decide_eq_true (by omega)), rfl⟩
set_option maxHeartbeats 4000000 in
set_option maxRecDepth 20000 in
theorem k_X2_size (l : Launch) (G : va_G) (Y : Nat → Nat) (hh hb2 nx ct : Nat)  : CtI l yX2_size cX2_size 1 .int 0 0 [.ref hh] [hisW Y hh hb2 nx ct] (fun r sg => r = nI ct ∧ sg = [hisW Y hh hb2 nx ct]) G Y := by
  refine x_ofI (by decide) (Nat.le_of_ble_eq_true rfl) (fun p e s m args below meth c A ls Q M hK hZ hw hl hret => ?_)
  obtain ⟨hx, hb, -⟩ := id M
  have hl : lv_has ls 1 [(0, .ref hh)] := hl
  refine lv_aload_n hx hb dX2_size_0 rfl (lv_at hl 0 rfl) ?_
  refine x_get M hK hw 0 0 rfl rfl ff_X2_18 rfl dX2_size_1 ?_
  exact hret _ _ _ (nI ct) _ _ dX2_size_4 hw rfl rfl ⟨rfl, rfl⟩
set_option maxHeartbeats 4000000 in
set_option maxRecDepth 20000 in
theorem k_X2_forgetAll (l : Launch) (G : va_G) (Y : Nat → Nat) (hh hb2 nx ct : Nat)  : CtV l yX2_forgetAll cX2_forgetAll 1 0 0 [.ref hh] [hisW Y hh hb2 nx ct] (fun sg => sg = [hisW Y hh hb2 nx 0]) G Y := by
  refine x_ofV (by decide) (Nat.le_of_ble_eq_true rfl) (fun p e s m args below meth c A ls Q M hK hZ hw hl hret => ?_)
  obtain ⟨hx, hb, -⟩ := id M
  have hl : lv_has ls 1 [(0, .ref hh)] := hl
  refine lv_aload_n hx hb dX2_forgetAll_0 rfl (lv_at hl 0 rfl) ?_
  refine lv_iconst (v := (nI 0)) hx hb dX2_forgetAll_1 (by decide) ?_
  refine x_put M hK hw 0 0 rfl rfl fp_X2_18 rfl rfl (Nat.le_of_ble_eq_true rfl) dX2_forgetAll_2 (fun H locs hw => ?_)
  have hw : xW G A s.heap [hisW Y hh hb2 nx 0] H locs := hw
  exact hret _ _ _ _ _ dX2_forgetAll_5 hw rfl rfl
set_option maxHeartbeats 4000000 in
set_option maxRecDepth 20000 in
theorem k_X2_remember (l : Launch) (G : va_G) (Y : Nat → Nat) (hh hb2 nx ct : Nat) (h : Nat) (rr : Nat → Nat → Nat) (gg : Nat → Nat → Nat → Nat) (ρ : Nat → Nat) (γ : Nat → Nat → Nat) (hI : Inv ρ) (hnx : nx < 14) (hct : ct ≤ 14) : CtV l yX2_remember cX2_remember 2 2 81 [.ref hh, .ref h] [hisW Y hh hb2 nx ct, aucW Y h ρ γ, ringW Y hb2 rr gg] (fun sg => sg = [hisW Y hh hb2 (nxt nx) (min (ct + 1) 14), aucW Y h ρ γ, ringW Y hb2 (setR rr nx ρ) (setR gg nx γ)]) G Y := by
  refine x_ofV (by decide) (Nat.le_of_ble_eq_true rfl) (fun p e s m args below meth c A ls Q M hK hZ hw hl hret => ?_)
  obtain ⟨hx, hb, -⟩ := id M
  have hl : lv_has ls 2 [(0, .ref hh), (1, .ref h)] := hl
  refine lv_aload_n hx hb dX2_remember_0 rfl (lv_at hl 0 rfl) ?_
  refine x_get M hK hw 0 0 rfl rfl ff_X2_11 rfl dX2_remember_1 ?_
  refine lv_aload_n hx hb dX2_remember_4 rfl (lv_at hl 0 rfl) ?_
  refine x_get M hK hw 0 0 rfl rfl ff_X2_22 rfl dX2_remember_5 ?_
  refine x_qald M hK hw 0 1 rfl rfl (by omega) (by decide) rfl dX2_remember_8 ?_
  rw [ring_cut (i := nx) (by omega)] at hw
  have hw := hw.cut3
  refine lv_aload_n hx hb dX2_remember_9 rfl (lv_at hl 1 rfl) ?_
  refine x_cVV (As := [.ref h]) (k_X1_become l G Y (hb2 + 11 * nx) h (rr nx) (gg nx) ρ γ (by omega)) cw_X2_25 [3, 1] 3 0 M hK hZ hw hl.1 rfl (by decide) rfl rfl rfl ⟨by decide, by decide⟩ ⟨Nat.zero_le _, Nat.zero_le _⟩ rfl rfl (Nat.le_of_ble_eq_true rfl) dX2_remember_10 (fun sg h_1 H locs hw => ?_)
  obtain rfl := h_1
  have hw : xW G A s.heap [hisW Y hh hb2 nx ct, aucW Y h ρ γ, ringL Y hb2 rr gg 0 nx, aucW Y (hb2 + 11 * nx) ρ γ, ringL Y hb2 rr gg (nx + 1) (13 - nx)] H locs := hw
  have hw := hw.join3
  rw [← ring_put (rw := rr) (gg := gg) (i := nx) (by omega)] at hw
  have hw : xW G A s.heap [hisW Y hh hb2 nx ct, aucW Y h ρ γ, ringW Y hb2 (setR rr nx ρ) (setR gg nx γ)] H locs := hw
  refine lv_aload_n hx hb dX2_remember_13 rfl (lv_at hl 0 rfl) ?_
  refine lv_aload_n hx hb dX2_remember_14 rfl (lv_at hl 0 rfl) ?_
  refine x_get M hK hw 0 0 rfl rfl ff_X2_22 rfl dX2_remember_15 ?_
  refine lv_bipush (v := (nI 13)) hx hb dX2_remember_18 (by decide) ?_
  refine x_cge M (tgt := 32) (by omega) (by decide) dX2_remember_20 (by decide) (fun c_2 => ?_) (fun c_2 => ?_)
  · refine lv_iconst (v := (nI 0)) hx hb dX2_remember_32 (by decide) ?_
    refine x_topN (n := nxt nx) (congrArg nI (by unfold nxt; rw [if_neg (by omega)])) ?_
    refine x_put M hK hw 0 0 rfl rfl fp_X2_22 rfl rfl (Nat.le_of_ble_eq_true rfl) dX2_remember_33 (fun H locs hw => ?_)
    have hw : xW G A s.heap [hisW Y hh hb2 (nxt nx) ct, aucW Y h ρ γ, ringW Y hb2 (setR rr nx ρ) (setR gg nx γ)] H locs := hw
    refine lv_aload_n hx hb dX2_remember_36 rfl (lv_at hl 0 rfl) ?_
    refine lv_aload_n hx hb dX2_remember_37 rfl (lv_at hl 0 rfl) ?_
    refine x_get M hK hw 0 0 rfl rfl ff_X2_18 rfl dX2_remember_38 ?_
    refine lv_iconst (v := (nI 1)) hx hb dX2_remember_41 (by decide) ?_
    refine x_iadd M (n := 1 + ct) dX2_remember_42 (by omega) ?_
    refine lv_bipush (v := (nI 14)) hx hb dX2_remember_43 (by decide) ?_
    refine x_min M hl.1 mw_786 mw_290 mw_13 mw_291 ⟨by decide, by decide⟩ ⟨Nat.zero_le _, Nat.zero_le _⟩ (Nat.le_of_ble_eq_true rfl) (by omega) (by decide) dX2_remember_45 ?_
    refine x_topN (n := (min (ct + 1) 14)) (congrArg nI (by omega)) ?_
    refine x_put M hK hw 0 0 rfl rfl fp_X2_18 rfl rfl (Nat.le_of_ble_eq_true rfl) dX2_remember_48 (fun H locs hw => ?_)
    have hw : xW G A s.heap [hisW Y hh hb2 (nxt nx) (min (ct + 1) 14), aucW Y h ρ γ, ringW Y hb2 (setR rr nx ρ) (setR gg nx γ)] H locs := hw
    exact hret _ _ _ _ _ dX2_remember_51 hw rfl rfl
  refine lv_aload_n hx hb dX2_remember_23 rfl (lv_at hl 0 rfl) ?_
  refine x_get M hK hw 0 0 rfl rfl ff_X2_22 rfl dX2_remember_24 ?_
  refine lv_iconst (v := (nI 1)) hx hb dX2_remember_27 (by decide) ?_
  refine x_iadd M (n := 1 + nx) dX2_remember_28 (by omega) ?_
  refine x_topN (n := (nxt nx)) (congrArg nI (by unfold nxt; rw [if_pos (by omega)]; omega)) ?_
  refine lv_goto (tgt := 33) hx hb dX2_remember_29 (by decide) ?_
  refine x_put M hK hw 0 0 rfl rfl fp_X2_22 rfl rfl (Nat.le_of_ble_eq_true rfl) dX2_remember_33 (fun H locs hw => ?_)
  have hw : xW G A s.heap [hisW Y hh hb2 (nxt nx) ct, aucW Y h ρ γ, ringW Y hb2 (setR rr nx ρ) (setR gg nx γ)] H locs := hw
  refine lv_aload_n hx hb dX2_remember_36 rfl (lv_at hl 0 rfl) ?_
  refine lv_aload_n hx hb dX2_remember_37 rfl (lv_at hl 0 rfl) ?_
  refine x_get M hK hw 0 0 rfl rfl ff_X2_18 rfl dX2_remember_38 ?_
  refine lv_iconst (v := (nI 1)) hx hb dX2_remember_41 (by decide) ?_
  refine x_iadd M (n := 1 + ct) dX2_remember_42 (by omega) ?_
  refine lv_bipush (v := (nI 14)) hx hb dX2_remember_43 (by decide) ?_
  refine x_min M hl.1 mw_786 mw_290 mw_13 mw_291 ⟨by decide, by decide⟩ ⟨Nat.zero_le _, Nat.zero_le _⟩ (Nat.le_of_ble_eq_true rfl) (by omega) (by decide) dX2_remember_45 ?_
  refine x_topN (n := (min (ct + 1) 14)) (congrArg nI (by omega)) ?_
  refine x_put M hK hw 0 0 rfl rfl fp_X2_18 rfl rfl (Nat.le_of_ble_eq_true rfl) dX2_remember_48 (fun H locs hw => ?_)
  have hw : xW G A s.heap [hisW Y hh hb2 (nxt nx) (min (ct + 1) 14), aucW Y h ρ γ, ringW Y hb2 (setR rr nx ρ) (setR gg nx γ)] H locs := hw
  exact hret _ _ _ _ _ dX2_remember_51 hw rfl rfl
set_option maxHeartbeats 4000000 in
set_option maxRecDepth 20000 in
theorem k_X2_takeBack (l : Launch) (G : va_G) (Y : Nat → Nat) (hh hb2 nx ct : Nat) (h : Nat) (rr : Nat → Nat → Nat) (gg : Nat → Nat → Nat → Nat) (ρ : Nat → Nat) (γ : Nat → Nat → Nat) (hIr : Inv (rr (prv nx))) (hnx : nx < 14) (hct : ct ≤ 14) (hct0 : 0 < ct) : CtV l yX2_takeBack cX2_takeBack 2 2 81 [.ref hh, .ref h] [hisW Y hh hb2 nx ct, aucW Y h ρ γ, ringW Y hb2 rr gg] (fun sg => sg = [hisW Y hh hb2 (prv nx) (ct - 1), aucW Y h (rr (prv nx)) (gg (prv nx)), ringW Y hb2 rr gg]) G Y := by
  refine x_ofV (by decide) (Nat.le_of_ble_eq_true rfl) (fun p e s m args below meth c A ls Q M hK hZ hw hl hret => ?_)
  obtain ⟨hx, hb, -⟩ := id M
  have hl : lv_has ls 2 [(0, .ref hh), (1, .ref h)] := hl
  have hp14 : prv nx < 14 := by unfold prv; split <;> omega
  refine lv_aload_n hx hb dX2_takeBack_0 rfl (lv_at hl 0 rfl) ?_
  refine lv_aload_n hx hb dX2_takeBack_1 rfl (lv_at hl 0 rfl) ?_
  refine x_get M hK hw 0 0 rfl rfl ff_X2_22 rfl dX2_takeBack_2 ?_
  refine x_zle M (tgt := 17) (by omega) dX2_takeBack_5 (by decide) (fun c_1 => ?_) (fun c_1 => ?_)
  · refine lv_bipush (v := (nI 13)) hx hb dX2_takeBack_17 (by decide) ?_
    refine x_topN (n := prv nx) (congrArg nI (by unfold prv; rw [if_neg (by omega)])) ?_
    refine x_put M hK hw 0 0 rfl rfl fp_X2_22 rfl rfl (Nat.le_of_ble_eq_true rfl) dX2_takeBack_19 (fun H locs hw => ?_)
    have hw : xW G A s.heap [hisW Y hh hb2 (prv nx) ct, aucW Y h ρ γ, ringW Y hb2 rr gg] H locs := hw
    refine lv_aload_n hx hb dX2_takeBack_22 rfl (lv_at hl 0 rfl) ?_
    refine lv_dup hx hb dX2_takeBack_23 rfl ?_
    refine x_get M hK hw 0 0 rfl rfl ff_X2_18 rfl dX2_takeBack_24 ?_
    refine lv_iconst (v := (nI 1)) hx hb dX2_takeBack_27 (by decide) ?_
    refine x_isub M (n := (ct - 1)) dX2_takeBack_28 (by omega) ?_
    refine x_put M hK hw 0 0 rfl rfl fp_X2_18 rfl rfl (Nat.le_of_ble_eq_true rfl) dX2_takeBack_29 (fun H locs hw => ?_)
    have hw : xW G A s.heap [hisW Y hh hb2 (prv nx) (ct - 1), aucW Y h ρ γ, ringW Y hb2 rr gg] H locs := hw
    refine lv_aload_n hx hb dX2_takeBack_32 rfl (lv_at hl 1 rfl) ?_
    refine lv_aload_n hx hb dX2_takeBack_33 rfl (lv_at hl 0 rfl) ?_
    refine x_get M hK hw 0 0 rfl rfl ff_X2_11 rfl dX2_takeBack_34 ?_
    refine lv_aload_n hx hb dX2_takeBack_37 rfl (lv_at hl 0 rfl) ?_
    refine x_get M hK hw 0 0 rfl rfl ff_X2_22 rfl dX2_takeBack_38 ?_
    refine x_qald M hK hw 0 1 rfl rfl (by omega) (by decide) rfl dX2_takeBack_41 ?_
    rw [ring_cut (i := (prv nx)) (by omega)] at hw
    have hw := hw.cut3
    refine x_cVV (As := [.ref (hb2 + 11 * (prv nx))]) (k_X1_become l G Y h (hb2 + 11 * (prv nx)) ρ γ (rr (prv nx)) (gg (prv nx)) (hIr)) cw_X2_25 [1, 3] 1 0 M hK hZ hw hl.1 rfl (by decide) rfl rfl rfl ⟨by decide, by decide⟩ ⟨Nat.zero_le _, Nat.zero_le _⟩ rfl rfl (Nat.le_of_ble_eq_true rfl) dX2_takeBack_42 (fun sg h_2 H locs hw => ?_)
    obtain rfl := h_2
    have hw : xW G A s.heap [hisW Y hh hb2 (prv nx) (ct - 1), aucW Y h (rr (prv nx)) (gg (prv nx)), ringL Y hb2 rr gg 0 (prv nx), aucW Y (hb2 + 11 * (prv nx)) (rr (prv nx)) (gg (prv nx)), ringL Y hb2 rr gg ((prv nx) + 1) (13 - (prv nx))] H locs := hw
    have hw := hw.join3
    rw [← ring_cut (i := (prv nx)) (by omega)] at hw
    have hw : xW G A s.heap [hisW Y hh hb2 (prv nx) (ct - 1), aucW Y h (rr (prv nx)) (gg (prv nx)), ringW Y hb2 rr gg] H locs := hw
    exact hret _ _ _ _ _ dX2_takeBack_45 hw rfl rfl
  refine lv_aload_n hx hb dX2_takeBack_8 rfl (lv_at hl 0 rfl) ?_
  refine x_get M hK hw 0 0 rfl rfl ff_X2_22 rfl dX2_takeBack_9 ?_
  refine lv_iconst (v := (nI 1)) hx hb dX2_takeBack_12 (by decide) ?_
  refine x_isub M (n := (nx - 1)) dX2_takeBack_13 (by omega) ?_
  refine lv_goto (tgt := 19) hx hb dX2_takeBack_14 (by decide) ?_
  refine x_topN (n := prv nx) (congrArg nI (by unfold prv; rw [if_pos (by omega)])) ?_
  refine x_put M hK hw 0 0 rfl rfl fp_X2_22 rfl rfl (Nat.le_of_ble_eq_true rfl) dX2_takeBack_19 (fun H locs hw => ?_)
  have hw : xW G A s.heap [hisW Y hh hb2 (prv nx) ct, aucW Y h ρ γ, ringW Y hb2 rr gg] H locs := hw
  refine lv_aload_n hx hb dX2_takeBack_22 rfl (lv_at hl 0 rfl) ?_
  refine lv_dup hx hb dX2_takeBack_23 rfl ?_
  refine x_get M hK hw 0 0 rfl rfl ff_X2_18 rfl dX2_takeBack_24 ?_
  refine lv_iconst (v := (nI 1)) hx hb dX2_takeBack_27 (by decide) ?_
  refine x_isub M (n := (ct - 1)) dX2_takeBack_28 (by omega) ?_
  refine x_put M hK hw 0 0 rfl rfl fp_X2_18 rfl rfl (Nat.le_of_ble_eq_true rfl) dX2_takeBack_29 (fun H locs hw => ?_)
  have hw : xW G A s.heap [hisW Y hh hb2 (prv nx) (ct - 1), aucW Y h ρ γ, ringW Y hb2 rr gg] H locs := hw
  refine lv_aload_n hx hb dX2_takeBack_32 rfl (lv_at hl 1 rfl) ?_
  refine lv_aload_n hx hb dX2_takeBack_33 rfl (lv_at hl 0 rfl) ?_
  refine x_get M hK hw 0 0 rfl rfl ff_X2_11 rfl dX2_takeBack_34 ?_
  refine lv_aload_n hx hb dX2_takeBack_37 rfl (lv_at hl 0 rfl) ?_
  refine x_get M hK hw 0 0 rfl rfl ff_X2_22 rfl dX2_takeBack_38 ?_
  refine x_qald M hK hw 0 1 rfl rfl (by omega) (by decide) rfl dX2_takeBack_41 ?_
  rw [ring_cut (i := (prv nx)) (by omega)] at hw
  have hw := hw.cut3
  refine x_cVV (As := [.ref (hb2 + 11 * (prv nx))]) (k_X1_become l G Y h (hb2 + 11 * (prv nx)) ρ γ (rr (prv nx)) (gg (prv nx)) (hIr)) cw_X2_25 [1, 3] 1 0 M hK hZ hw hl.1 rfl (by decide) rfl rfl rfl ⟨by decide, by decide⟩ ⟨Nat.zero_le _, Nat.zero_le _⟩ rfl rfl (Nat.le_of_ble_eq_true rfl) dX2_takeBack_42 (fun sg h_3 H locs hw => ?_)
  obtain rfl := h_3
  have hw : xW G A s.heap [hisW Y hh hb2 (prv nx) (ct - 1), aucW Y h (rr (prv nx)) (gg (prv nx)), ringL Y hb2 rr gg 0 (prv nx), aucW Y (hb2 + 11 * (prv nx)) (rr (prv nx)) (gg (prv nx)), ringL Y hb2 rr gg ((prv nx) + 1) (13 - (prv nx))] H locs := hw
  have hw := hw.join3
  rw [← ring_cut (i := (prv nx)) (by omega)] at hw
  have hw : xW G A s.heap [hisW Y hh hb2 (prv nx) (ct - 1), aucW Y h (rr (prv nx)) (gg (prv nx)), ringW Y hb2 rr gg] H locs := hw
  exact hret _ _ _ _ _ dX2_takeBack_45 hw rfl rfl
