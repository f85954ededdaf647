set_option maxHeartbeats 8000000 in
set_option maxRecDepth 20000 in
theorem a_text0 (l : Launch) (hfl : l.stackTraces = false) (G : va_G) (Y : Nat → Nat) (xo h0 h1 hh hb2 sl a0 a1 sv tz az : Nat) (ρ : Nat → Nat) (nx : Nat) (ct : Nat) (rr : Nat → Nat → Nat) (κ0 : Nat → Nat) (κ1 : Nat → Nat) (fl : Nat → Int32) (tn : Nat) (lt : Nat → Nat) (γ : Nat → Nat → Nat) (κ : Nat → Nat) (γ1 : Nat → Nat → Nat) (gg : Nat → Nat → Nat → Nat) (δ0 : Nat → Nat → Nat) (δ1 : Nat → Nat → Nat) (lf : Nat → Nat) (tk : Nat → Int32) (bt : Nat → Int32) (bw : Int32) (B x y : Nat) {post2 : Int32 → List va_W → Prop} (hO : OK B ρ nx ct rr κ0 κ1 fl tn lt) (hxx : x < 2 ^ 31) (hyy : y < 2 ^ 31) (hq : x % 24 = 21) (hy4 : 0 < y % 64) (hpp : ∀ r sg, (fun r sg => r = nI 15 ∧ sg = oW Y xo h0 h1 hh hb2 sl a0 a1 sv tz az ρ nx ct rr κ0 κ1 fl 5 (setN (setN (setN (setN (setN lt 0 76) 1 98) 2 (48 + (y % 10))) 3 (48 + ((y / 16) % 10))) 4 (48 + ((y / 256) % 9))) γ κ γ1 gg δ0 δ1 lf tk bt bw) r sg → post2 r sg) : CtG l yL_act cL_act 6 .int 40 1500 10 60 [.ref xo, .int (nI x), .int (nI y)] (oW Y xo h0 h1 hh hb2 sl a0 a1 sv tz az ρ nx ct rr κ0 κ1 fl tn lt γ κ γ1 gg δ0 δ1 lf tk bt bw) (post2) G Y := by
  refine x_ofG (by decide) (Nat.le_of_ble_eq_true rfl) (fun p e s m args below meth c A ls Q M hK hZ hN hw hl hret => ?_)
  obtain ⟨hx, hb, -⟩ := id M
  have hl : lv_has ls 6 [(0, .ref xo), (1, .int (nI x)), (2, .int (nI y))] := hl
  have hI := hO.inv
  have h6 := hI.n6
  have haB := aB_le (ρ := ρ) (y := y)
  refine lv_aload_n hx hb dL_act_0 rfl (lv_at hl 0 rfl) ?_
  refine lv_iconst (v := (nI 2)) hx hb dL_act_1 (by decide) ?_
  refine lv_iconst (v := (nI 0)) hx hb dL_act_2 (by decide) ?_
  refine lv_iconst (v := (nI 0)) hx hb dL_act_3 (by decide) ?_
  refine lv_iconst (v := (nI 0)) hx hb dL_act_4 (by decide) ?_
  refine x_cSG (As := [.ref xo, .int (nI 2), .int (nI 0), .int (nI 0), .int (nI 0)]) (oK_about l G Y xo h0 h1 hh hb2 sl a0 a1 sv tz az ρ nx ct rr κ0 κ1 fl tn lt γ κ γ1 gg δ0 δ1 lf tk bt bw _ (hI) (by decide) _ _) cw_L_192 [0, 1, 2, 3, 4, 5, 6, 7, 8, 9, 10] M hK hZ hN hw hl.1 rfl (by decide) ⟨by decide, by decide⟩ ⟨by show _ ≤ 10; omega, by show _ ≤ 60; omega⟩ rfl rfl (Nat.le_of_ble_eq_true rfl) dL_act_5 (fun r sg h_1 ha H locs hw => ?_)
  obtain ⟨rfl, rfl⟩ := h_1
  have hw : xW G A s.heap (oW Y xo h0 h1 hh hb2 sl a0 a1 sv tz az ρ nx ct rr κ0 κ1 fl tn lt γ κ γ1 gg δ0 δ1 lf tk bt bw) H locs := hw
  refine x_topN (n := ρ 4) rfl ?_
  refine lv_istore_n (lv' := [(3, .int (nI (ρ 4))), (0, .ref xo), (1, .int (nI x)), (2, .int (nI y))]) hx hb dL_act_8 rfl hl (by decide) rfl (fun ls hl => ?_)
  have L20 : ∀ (H : Heap) (locs : List Loc) (ls : Array Slot), xW G A s.heap (oW Y xo h0 h1 hh hb2 sl a0 a1 sv tz az ρ nx ct rr κ0 κ1 fl tn lt γ κ γ1 gg δ0 δ1 lf tk bt bw) H locs → lv_has ls 6 [(3, .int (nI (ρ 4))), (0, .ref xo), (1, .int (nI x)), (2, .int (nI y))] → W p l e (xRmG 40 1500 10 60) s m args below meth c H locs 1 6 Q (F0 m 20 ls [.int (nI (aB ρ y))]) := by
    intro H locs ls hw hl
    refine lv_istore (lv' := [(4, .int (nI (aB ρ y))), (3, .int (nI (ρ 4))), (0, .ref xo), (1, .int (nI x)), (2, .int (nI y))]) hx hb dL_act_20 hl (by decide) rfl (fun ls hl => ?_)
    refine lv_iload_n hx hb dL_act_22 rfl (lv_at hl 4 rfl) ?_
    refine lv_bipush (v := (nI 8)) hx hb dL_act_23 (by decide) ?_
    refine x_idiv M (n := y / 8) dL_act_25 (by omega) (by omega) (by decide) rfl ?_
    refine lv_iconst (v := (nI 3)) hx hb dL_act_26 (by decide) ?_
    refine x_irem M (n := (y / 8) % 3) dL_act_27 (by omega) (by omega) (by decide) rfl ?_
    refine lv_istore (lv' := [(5, .int (nI ((y / 8) % 3))), (4, .int (nI (aB ρ y))), (3, .int (nI (ρ 4))), (0, .ref xo), (1, .int (nI x)), (2, .int (nI y))]) hx hb dL_act_28 hl (by decide) rfl (fun ls hl => ?_)
    refine lv_iload_n hx hb dL_act_30 rfl (lv_at hl 4 rfl) ?_
    refine lv_bipush (v := (nI 24)) hx hb dL_act_31 (by decide) ?_
    refine x_irem M (n := x % 24) dL_act_33 (by omega) (by omega) (by decide) rfl ?_
    have L373 : ∀ (H : Heap) (locs : List Loc) (ls : Array Slot), xW G A s.heap (oW Y xo h0 h1 hh hb2 sl a0 a1 sv tz az ρ nx ct rr κ0 κ1 fl tn lt γ κ γ1 gg δ0 δ1 lf tk bt bw) H locs → lv_has ls 6 [(5, .int (nI ((y / 8) % 3))), (4, .int (nI (aB ρ y))), (3, .int (nI (ρ 4))), (0, .ref xo), (1, .int (nI x)), (2, .int (nI y))] → W p l e (xRmG 40 1500 10 60) s m args below meth c H locs 1 6 Q (F0 m 373 ls []) := by
      intro H locs ls hw hl
      refine lv_aload_n hx hb dL_act_373 rfl (lv_at hl 3 rfl) ?_
      refine x_cVI (As := []) (k_X5_clearText l G Y xo h0 h1 hh sl sv tz az tn lt hO.hn hO.hlt) cw_L_226 [0, 9] 0 0 M hK hZ hw hl.1 rfl (by decide) rfl rfl rfl ⟨by decide, by decide⟩ ⟨by show _ ≤ 10; omega, by show _ ≤ 60; omega⟩ rfl rfl (Nat.le_of_ble_eq_true rfl) dL_act_374 (fun r sg h_2 H locs hw => ?_)
      obtain ⟨rfl, rfl⟩ := h_2
      have hw : xW G A s.heap (oW Y xo h0 h1 hh hb2 sl a0 a1 sv tz az ρ nx ct rr κ0 κ1 fl 0 lt γ κ γ1 gg δ0 δ1 lf tk bt bw) H locs := hw
      refine lv_pop hx hb dL_act_377 rfl ?_
      refine lv_aload_n hx hb dL_act_378 rfl (lv_at hl 3 rfl) ?_
      refine lv_iconst (v := (nI 0)) hx hb dL_act_379 (by decide) ?_
      refine lv_bipush (v := (nI 76)) hx hb dL_act_380 (by decide) ?_
      refine lv_iconst (v := (nI 0)) hx hb dL_act_382 (by decide) ?_
      refine lv_iconst (v := (nI 0)) hx hb dL_act_383 (by decide) ?_
      refine x_cSG (As := [.ref xo, .int (nI 0), .int (nI 76), .int (nI 0), .int (nI 0)]) (oK_append l G Y xo h0 h1 hh hb2 sl a0 a1 sv tz az ρ nx ct rr κ0 κ1 fl 0 lt γ κ γ1 gg δ0 δ1 lf tk bt bw _ (by decide) (hO.hlt) (by omega) (by decide) _ _) cw_L_192 [0, 1, 2, 3, 4, 5, 6, 7, 8, 9, 10] M hK hZ hN hw hl.1 rfl (by decide) ⟨by decide, by decide⟩ ⟨by show _ ≤ 10; omega, by show _ ≤ 60; omega⟩ rfl rfl (Nat.le_of_ble_eq_true rfl) dL_act_384 (fun r sg h_3 ha H locs hw => ?_)
      obtain ⟨rfl, rfl⟩ := h_3
      have hw : xW G A s.heap (oW Y xo h0 h1 hh hb2 sl a0 a1 sv tz az ρ nx ct rr κ0 κ1 fl (1 + 0) (setN lt 0 76) γ κ γ1 gg δ0 δ1 lf tk bt bw) H locs := hw
      have hw : xW G A s.heap (oW Y xo h0 h1 hh hb2 sl a0 a1 sv tz az ρ nx ct rr κ0 κ1 fl 1 (setN lt 0 76) γ κ γ1 gg δ0 δ1 lf tk bt bw) H locs := hw
      refine x_topN (n := 1) rfl ?_
      refine lv_aload_n hx hb dL_act_387 rfl (lv_at hl 3 rfl) ?_
      refine lv_iconst (v := (nI 0)) hx hb dL_act_388 (by decide) ?_
      refine lv_bipush (v := (nI 98)) hx hb dL_act_389 (by decide) ?_
      refine lv_iconst (v := (nI 0)) hx hb dL_act_391 (by decide) ?_
      refine lv_iconst (v := (nI 0)) hx hb dL_act_392 (by decide) ?_
      refine x_cSG (As := [.ref xo, .int (nI 0), .int (nI 98), .int (nI 0), .int (nI 0)]) (oK_append l G Y xo h0 h1 hh hb2 sl a0 a1 sv tz az ρ nx ct rr κ0 κ1 fl 1 (setN lt 0 76) γ κ γ1 gg δ0 δ1 lf tk bt bw _ (by decide) (lt_set (hO.hlt) (by omega)) (by omega) (by decide) _ _) cw_L_192 [0, 1, 2, 3, 4, 5, 6, 7, 8, 9, 10] M hK hZ hN hw hl.1 rfl (by decide) ⟨by decide, by decide⟩ ⟨by show _ ≤ 10; omega, by show _ ≤ 60; omega⟩ rfl rfl (Nat.le_of_ble_eq_true rfl) dL_act_393 (fun r sg h_4 ha H locs hw => ?_)
      obtain ⟨rfl, rfl⟩ := h_4
      have hw : xW G A s.heap (oW Y xo h0 h1 hh hb2 sl a0 a1 sv tz az ρ nx ct rr κ0 κ1 fl (1 + 1) (setN (setN lt 0 76) 1 98) γ κ γ1 gg δ0 δ1 lf tk bt bw) H locs := hw
      have hw : xW G A s.heap (oW Y xo h0 h1 hh hb2 sl a0 a1 sv tz az ρ nx ct rr κ0 κ1 fl 2 (setN (setN lt 0 76) 1 98) γ κ γ1 gg δ0 δ1 lf tk bt bw) H locs := hw
      refine x_topN (n := 2) rfl ?_
      refine x_iadd M (n := 3) dL_act_396 rfl ?_
      refine lv_aload_n hx hb dL_act_397 rfl (lv_at hl 3 rfl) ?_
      refine lv_iconst (v := (nI 0)) hx hb dL_act_398 (by decide) ?_
      refine lv_bipush (v := (nI 48)) hx hb dL_act_399 (by decide) ?_
      refine lv_iload_n hx hb dL_act_401 rfl (lv_at hl 5 rfl) ?_
      refine lv_bipush (v := (nI 10)) hx hb dL_act_402 (by decide) ?_
      refine x_irem M (n := y % 10) dL_act_404 (by omega) (by omega) (by decide) rfl ?_
      refine x_iadd M (n := 48 + (y % 10)) dL_act_405 rfl ?_
      refine lv_iconst (v := (nI 0)) hx hb dL_act_406 (by decide) ?_
      refine lv_iconst (v := (nI 0)) hx hb dL_act_407 (by decide) ?_
      refine x_cSG (As := [.ref xo, .int (nI 0), .int (nI (48 + (y % 10))), .int (nI 0), .int (nI 0)]) (oK_append l G Y xo h0 h1 hh hb2 sl a0 a1 sv tz az ρ nx ct rr κ0 κ1 fl 2 (setN (setN lt 0 76) 1 98) γ κ γ1 gg δ0 δ1 lf tk bt bw _ (by decide) (lt_set (lt_set (hO.hlt) (by omega)) (by omega)) (by omega) (by decide) _ _) cw_L_192 [0, 1, 2, 3, 4, 5, 6, 7, 8, 9, 10] M hK hZ hN hw hl.1 rfl (by decide) ⟨by decide, by decide⟩ ⟨by show _ ≤ 10; omega, by show _ ≤ 60; omega⟩ rfl rfl (Nat.le_of_ble_eq_true rfl) dL_act_408 (fun r sg h_5 ha H locs hw => ?_)
      obtain ⟨rfl, rfl⟩ := h_5
      have hw : xW G A s.heap (oW Y xo h0 h1 hh hb2 sl a0 a1 sv tz az ρ nx ct rr κ0 κ1 fl (1 + 2) (setN (setN (setN lt 0 76) 1 98) 2 (48 + (y % 10))) γ κ γ1 gg δ0 δ1 lf tk bt bw) H locs := hw
      have hw : xW G A s.heap (oW Y xo h0 h1 hh hb2 sl a0 a1 sv tz az ρ nx ct rr κ0 κ1 fl 3 (setN (setN (setN lt 0 76) 1 98) 2 (48 + (y % 10))) γ κ γ1 gg δ0 δ1 lf tk bt bw) H locs := hw
      refine x_topN (n := 3) rfl ?_
      refine x_iadd M (n := 6) dL_act_411 rfl ?_
      refine lv_aload_n hx hb dL_act_412 rfl (lv_at hl 3 rfl) ?_
      refine lv_iconst (v := (nI 0)) hx hb dL_act_413 (by decide) ?_
      refine lv_bipush (v := (nI 48)) hx hb dL_act_414 (by decide) ?_
      refine lv_iload_n hx hb dL_act_416 rfl (lv_at hl 5 rfl) ?_
      refine lv_bipush (v := (nI 16)) hx hb dL_act_417 (by decide) ?_
      refine x_idiv M (n := y / 16) dL_act_419 (by omega) (by omega) (by decide) rfl ?_
      refine lv_bipush (v := (nI 10)) hx hb dL_act_420 (by decide) ?_
      refine x_irem M (n := (y / 16) % 10) dL_act_422 (by omega) (by omega) (by decide) rfl ?_
      refine x_iadd M (n := 48 + ((y / 16) % 10)) dL_act_423 rfl ?_
      refine lv_iconst (v := (nI 0)) hx hb dL_act_424 (by decide) ?_
      refine lv_iconst (v := (nI 0)) hx hb dL_act_425 (by decide) ?_
      refine x_cSG (As := [.ref xo, .int (nI 0), .int (nI (48 + ((y / 16) % 10))), .int (nI 0), .int (nI 0)]) (oK_append l G Y xo h0 h1 hh hb2 sl a0 a1 sv tz az ρ nx ct rr κ0 κ1 fl 3 (setN (setN (setN lt 0 76) 1 98) 2 (48 + (y % 10))) γ κ γ1 gg δ0 δ1 lf tk bt bw _ (by decide) (lt_set (lt_set (lt_set (hO.hlt) (by omega)) (by omega)) (by omega)) (by omega) (by decide) _ _) cw_L_192 [0, 1, 2, 3, 4, 5, 6, 7, 8, 9, 10] M hK hZ hN hw hl.1 rfl (by decide) ⟨by decide, by decide⟩ ⟨by show _ ≤ 10; omega, by show _ ≤ 60; omega⟩ rfl rfl (Nat.le_of_ble_eq_true rfl) dL_act_426 (fun r sg h_6 ha H locs hw => ?_)
      obtain ⟨rfl, rfl⟩ := h_6
      have hw : xW G A s.heap (oW Y xo h0 h1 hh hb2 sl a0 a1 sv tz az ρ nx ct rr κ0 κ1 fl (1 + 3) (setN (setN (setN (setN lt 0 76) 1 98) 2 (48 + (y % 10))) 3 (48 + ((y / 16) % 10))) γ κ γ1 gg δ0 δ1 lf tk bt bw) H locs := hw
      have hw : xW G A s.heap (oW Y xo h0 h1 hh hb2 sl a0 a1 sv tz az ρ nx ct rr κ0 κ1 fl 4 (setN (setN (setN (setN lt 0 76) 1 98) 2 (48 + (y % 10))) 3 (48 + ((y / 16) % 10))) γ κ γ1 gg δ0 δ1 lf tk bt bw) H locs := hw
      refine x_topN (n := 4) rfl ?_
      refine x_iadd M (n := 10) dL_act_429 rfl ?_
      refine lv_aload_n hx hb dL_act_430 rfl (lv_at hl 3 rfl) ?_
      refine lv_iconst (v := (nI 0)) hx hb dL_act_431 (by decide) ?_
      refine lv_bipush (v := (nI 48)) hx hb dL_act_432 (by decide) ?_
      refine lv_iload_n hx hb dL_act_434 rfl (lv_at hl 5 rfl) ?_
      refine lv_sipush (v := (nI 256)) hx hb dL_act_435 (by decide) ?_
      refine x_idiv M (n := y / 256) dL_act_438 (by omega) (by omega) (by decide) rfl ?_
      refine lv_bipush (v := (nI 9)) hx hb dL_act_439 (by decide) ?_
      refine x_irem M (n := (y / 256) % 9) dL_act_441 (by omega) (by omega) (by decide) rfl ?_
      refine x_iadd M (n := 48 + ((y / 256) % 9)) dL_act_442 rfl ?_
      refine lv_iconst (v := (nI 0)) hx hb dL_act_443 (by decide) ?_
      refine lv_iconst (v := (nI 0)) hx hb dL_act_444 (by decide) ?_
      refine x_cSG (As := [.ref xo, .int (nI 0), .int (nI (48 + ((y / 256) % 9))), .int (nI 0), .int (nI 0)]) (oK_append l G Y xo h0 h1 hh hb2 sl a0 a1 sv tz az ρ nx ct rr κ0 κ1 fl 4 (setN (setN (setN (setN lt 0 76) 1 98) 2 (48 + (y % 10))) 3 (48 + ((y / 16) % 10))) γ κ γ1 gg δ0 δ1 lf tk bt bw _ (by decide) (lt_set (lt_set (lt_set (lt_set (hO.hlt) (by omega)) (by omega)) (by omega)) (by omega)) (by omega) (by decide) _ _) cw_L_192 [0, 1, 2, 3, 4, 5, 6, 7, 8, 9, 10] M hK hZ hN hw hl.1 rfl (by decide) ⟨by decide, by decide⟩ ⟨by show _ ≤ 10; omega, by show _ ≤ 60; omega⟩ rfl rfl (Nat.le_of_ble_eq_true rfl) dL_act_445 (fun r sg h_7 ha H locs hw => ?_)
      obtain ⟨rfl, rfl⟩ := h_7
      have hw : xW G A s.heap (oW Y xo h0 h1 hh hb2 sl a0 a1 sv tz az ρ nx ct rr κ0 κ1 fl (1 + 4) (setN (setN (setN (setN (setN lt 0 76) 1 98) 2 (48 + (y % 10))) 3 (48 + ((y / 16) % 10))) 4 (48 + ((y / 256) % 9))) γ κ γ1 gg δ0 δ1 lf tk bt bw) H locs := hw
      have hw : xW G A s.heap (oW Y xo h0 h1 hh hb2 sl a0 a1 sv tz az ρ nx ct rr κ0 κ1 fl 5 (setN (setN (setN (setN (setN lt 0 76) 1 98) 2 (48 + (y % 10))) 3 (48 + ((y / 16) % 10))) 4 (48 + ((y / 256) % 9))) γ κ γ1 gg δ0 δ1 lf tk bt bw) H locs := hw
      refine x_topN (n := 5) rfl ?_
      refine x_iadd M (n := 15) dL_act_448 rfl ?_
      refine lv_iload_n hx hb dL_act_449 rfl (lv_at hl 5 rfl) ?_
      refine lv_bipush (v := (nI 64)) hx hb dL_act_450 (by decide) ?_
      refine x_irem M (n := y % 64) dL_act_452 (by omega) (by omega) (by decide) rfl ?_
      refine x_zne M (tgt := 467) (by omega) dL_act_453 (by decide) (fun c_8 => ?_) (fun c_8 => by exfalso; omega)
      refine lv_iconst (v := (nI 0)) hx hb dL_act_467 (by decide) ?_
      refine x_iadd M (n := 15) dL_act_468 rfl ?_
      exact hret _ _ _ (nI 15) _ _ _ _ (by show _ ≤ 10; omega) (by show _ ≤ 60; omega) dL_act_469 hw rfl rfl (hpp _ _ ⟨rfl, rfl⟩)
    skip
    · refine x_topN (n := 21) (congrArg nI hq) ?_
      refine lv_tableIn (tgt := 373) hx hb dL_act_34 (by decide) (by decide) rfl (by decide) ?_
      exact L373 _ _ _ hw hl
  refine lv_iload_n hx hb dL_act_9 rfl (lv_at hl 0 rfl) ?_
  refine x_zne M (tgt := 17) (by omega) dL_act_10 (by decide) (fun c_n => ?_) (fun c_n => ?_)
  · refine lv_iload_n hx hb dL_act_17 rfl (lv_at hl 3 rfl) ?_
    refine lv_iload_n hx hb dL_act_18 rfl (lv_at hl 0 rfl) ?_
    refine x_irem M (n := y % (ρ 4)) dL_act_19 (by omega) (by omega) (by omega) rfl ?_
    refine x_topN (n := aB ρ y) (congrArg nI (aB_1 c_n)) ?_
    refine W_widen (k := 1) (n := 6) (by omega) (by omega) ?_
    exact L20 _ _ _ hw (lv_sub hl [0, 1, 2, 3] rfl)
  refine lv_iconst (v := (nI 0)) hx hb dL_act_13 (by decide) ?_
  refine lv_goto (tgt := 20) hx hb dL_act_14 (by decide) ?_
  refine x_topN (n := aB ρ y) (congrArg nI (aB_0 c_n)) ?_
  refine W_widen (k := 1) (n := 6) (by omega) (by omega) ?_
  exact L20 _ _ _ hw (lv_sub hl [0, 1, 2, 3] rfl)
set_option maxHeartbeats 8000000 in
set_option maxRecDepth 20000 in
theorem a_text1 (l : Launch) (hfl : l.stackTraces = false) (G : va_G) (Y : Nat → Nat) (xo h0 h1 hh hb2 sl a0 a1 sv tz az : Nat) (ρ : Nat → Nat) (nx : Nat) (ct : Nat) (rr : Nat → Nat → Nat) (κ0 : Nat → Nat) (κ1 : Nat → Nat) (fl : Nat → Int32) (tn : Nat) (lt : Nat → Nat) (γ : Nat → Nat → Nat) (κ : Nat → Nat) (γ1 : Nat → Nat → Nat) (gg : Nat → Nat → Nat → Nat) (δ0 : Nat → Nat → Nat) (δ1 : Nat → Nat → Nat) (lf : Nat → Nat) (tk : Nat → Int32) (bt : Nat → Int32) (bw : Int32) (B x y : Nat) {post2 : Int32 → List va_W → Prop} (hO : OK B ρ nx ct rr κ0 κ1 fl tn lt) (hxx : x < 2 ^ 31) (hyy : y < 2 ^ 31) (hq : x % 24 = 21) (hy4 : y % 64 = 0) (he : errP (setN (setN (setN (setN (setN lt 0 76) 1 98) 2 (48 + (y % 10))) 3 (48 + ((y / 16) % 10))) 4 (48 + ((y / 256) % 9))) 5 = 0) (hpp : ∀ r sg, (fun r sg => r = nI 15 + nI ((tR (setN (setN (setN (setN (setN lt 0 76) 1 98) 2 (48 + (y % 10))) 3 (48 + ((y / 16) % 10))) 4 (48 + ((y / 256) % 9))) 5 1 row0 0).2) ∧ ∃ (γ' : Nat → Nat → Nat), sg = oW Y xo h0 h1 hh hb2 sl a0 a1 sv tz az ((tR (setN (setN (setN (setN (setN lt 0 76) 1 98) 2 (48 + (y % 10))) 3 (48 + ((y / 16) % 10))) 4 (48 + ((y / 256) % 9))) 5 1 row0 0).1) nx 0 rr κ0 κ1 (upd (upd fl 0 (nI 0)) 1 (nI 0)) 5 (setN (setN (setN (setN (setN lt 0 76) 1 98) 2 (48 + (y % 10))) 3 (48 + ((y / 16) % 10))) 4 (48 + ((y / 256) % 9))) γ' κ γ1 gg δ0 δ1 lf tk bt bw) r sg → post2 r sg) : CtG l yL_act cL_act 6 .int 40 1500 10 60 [.ref xo, .int (nI x), .int (nI y)] (oW Y xo h0 h1 hh hb2 sl a0 a1 sv tz az ρ nx ct rr κ0 κ1 fl tn lt γ κ γ1 gg δ0 δ1 lf tk bt bw) (post2) G Y := by
  refine x_ofG (by decide) (Nat.le_of_ble_eq_true rfl) (fun p e s m args below meth c A ls Q M hK hZ hN hw hl hret => ?_)
  obtain ⟨hx, hb, -⟩ := id M
  have hl : lv_has ls 6 [(0, .ref xo), (1, .int (nI x)), (2, .int (nI y))] := hl
  have hI := hO.inv
  have h6 := hI.n6
  have haB := aB_le (ρ := ρ) (y := y)
  refine lv_aload_n hx hb dL_act_0 rfl (lv_at hl 0 rfl) ?_
  refine lv_iconst (v := (nI 2)) hx hb dL_act_1 (by decide) ?_
  refine lv_iconst (v := (nI 0)) hx hb dL_act_2 (by decide) ?_
  refine lv_iconst (v := (nI 0)) hx hb dL_act_3 (by decide) ?_
  refine lv_iconst (v := (nI 0)) hx hb dL_act_4 (by decide) ?_
  refine x_cSG (As := [.ref xo, .int (nI 2), .int (nI 0), .int (nI 0), .int (nI 0)]) (oK_about l G Y xo h0 h1 hh hb2 sl a0 a1 sv tz az ρ nx ct rr κ0 κ1 fl tn lt γ κ γ1 gg δ0 δ1 lf tk bt bw _ (hI) (by decide) _ _) cw_L_192 [0, 1, 2, 3, 4, 5, 6, 7, 8, 9, 10] M hK hZ hN hw hl.1 rfl (by decide) ⟨by decide, by decide⟩ ⟨by show _ ≤ 10; omega, by show _ ≤ 60; omega⟩ rfl rfl (Nat.le_of_ble_eq_true rfl) dL_act_5 (fun r sg h_1 ha H locs hw => ?_)
  obtain ⟨rfl, rfl⟩ := h_1
  have hw : xW G A s.heap (oW Y xo h0 h1 hh hb2 sl a0 a1 sv tz az ρ nx ct rr κ0 κ1 fl tn lt γ κ γ1 gg δ0 δ1 lf tk bt bw) H locs := hw
  refine x_topN (n := ρ 4) rfl ?_
  refine lv_istore_n (lv' := [(3, .int (nI (ρ 4))), (0, .ref xo), (1, .int (nI x)), (2, .int (nI y))]) hx hb dL_act_8 rfl hl (by decide) rfl (fun ls hl => ?_)
  have L20 : ∀ (H : Heap) (locs : List Loc) (ls : Array Slot), xW G A s.heap (oW Y xo h0 h1 hh hb2 sl a0 a1 sv tz az ρ nx ct rr κ0 κ1 fl tn lt γ κ γ1 gg δ0 δ1 lf tk bt bw) H locs → lv_has ls 6 [(3, .int (nI (ρ 4))), (0, .ref xo), (1, .int (nI x)), (2, .int (nI y))] → W p l e (xRmG 40 1500 10 60) s m args below meth c H locs 1 6 Q (F0 m 20 ls [.int (nI (aB ρ y))]) := by
    intro H locs ls hw hl
    refine lv_istore (lv' := [(4, .int (nI (aB ρ y))), (3, .int (nI (ρ 4))), (0, .ref xo), (1, .int (nI x)), (2, .int (nI y))]) hx hb dL_act_20 hl (by decide) rfl (fun ls hl => ?_)
    refine lv_iload_n hx hb dL_act_22 rfl (lv_at hl 4 rfl) ?_
    refine lv_bipush (v := (nI 8)) hx hb dL_act_23 (by decide) ?_
    refine x_idiv M (n := y / 8) dL_act_25 (by omega) (by omega) (by decide) rfl ?_
    refine lv_iconst (v := (nI 3)) hx hb dL_act_26 (by decide) ?_
    refine x_irem M (n := (y / 8) % 3) dL_act_27 (by omega) (by omega) (by decide) rfl ?_
    refine lv_istore (lv' := [(5, .int (nI ((y / 8) % 3))), (4, .int (nI (aB ρ y))), (3, .int (nI (ρ 4))), (0, .ref xo), (1, .int (nI x)), (2, .int (nI y))]) hx hb dL_act_28 hl (by decide) rfl (fun ls hl => ?_)
    refine lv_iload_n hx hb dL_act_30 rfl (lv_at hl 4 rfl) ?_
    refine lv_bipush (v := (nI 24)) hx hb dL_act_31 (by decide) ?_
    refine x_irem M (n := x % 24) dL_act_33 (by omega) (by omega) (by decide) rfl ?_
    have L373 : ∀ (H : Heap) (locs : List Loc) (ls : Array Slot), xW G A s.heap (oW Y xo h0 h1 hh hb2 sl a0 a1 sv tz az ρ nx ct rr κ0 κ1 fl tn lt γ κ γ1 gg δ0 δ1 lf tk bt bw) H locs → lv_has ls 6 [(5, .int (nI ((y / 8) % 3))), (4, .int (nI (aB ρ y))), (3, .int (nI (ρ 4))), (0, .ref xo), (1, .int (nI x)), (2, .int (nI y))] → W p l e (xRmG 40 1500 10 60) s m args below meth c H locs 1 6 Q (F0 m 373 ls []) := by
      intro H locs ls hw hl
      refine lv_aload_n hx hb dL_act_373 rfl (lv_at hl 3 rfl) ?_
      refine x_cVI (As := []) (k_X5_clearText l G Y xo h0 h1 hh sl sv tz az tn lt hO.hn hO.hlt) cw_L_226 [0, 9] 0 0 M hK hZ hw hl.1 rfl (by decide) rfl rfl rfl ⟨by decide, by decide⟩ ⟨by show _ ≤ 10; omega, by show _ ≤ 60; omega⟩ rfl rfl (Nat.le_of_ble_eq_true rfl) dL_act_374 (fun r sg h_2 H locs hw => ?_)
      obtain ⟨rfl, rfl⟩ := h_2
      have hw : xW G A s.heap (oW Y xo h0 h1 hh hb2 sl a0 a1 sv tz az ρ nx ct rr κ0 κ1 fl 0 lt γ κ γ1 gg δ0 δ1 lf tk bt bw) H locs := hw
      refine lv_pop hx hb dL_act_377 rfl ?_
      refine lv_aload_n hx hb dL_act_378 rfl (lv_at hl 3 rfl) ?_
      refine lv_iconst (v := (nI 0)) hx hb dL_act_379 (by decide) ?_
      refine lv_bipush (v := (nI 76)) hx hb dL_act_380 (by decide) ?_
      refine lv_iconst (v := (nI 0)) hx hb dL_act_382 (by decide) ?_
      refine lv_iconst (v := (nI 0)) hx hb dL_act_383 (by decide) ?_
      refine x_cSG (As := [.ref xo, .int (nI 0), .int (nI 76), .int (nI 0), .int (nI 0)]) (oK_append l G Y xo h0 h1 hh hb2 sl a0 a1 sv tz az ρ nx ct rr κ0 κ1 fl 0 lt γ κ γ1 gg δ0 δ1 lf tk bt bw _ (by decide) (hO.hlt) (by omega) (by decide) _ _) cw_L_192 [0, 1, 2, 3, 4, 5, 6, 7, 8, 9, 10] M hK hZ hN hw hl.1 rfl (by decide) ⟨by decide, by decide⟩ ⟨by show _ ≤ 10; omega, by show _ ≤ 60; omega⟩ rfl rfl (Nat.le_of_ble_eq_true rfl) dL_act_384 (fun r sg h_3 ha H locs hw => ?_)
      obtain ⟨rfl, rfl⟩ := h_3
      have hw : xW G A s.heap (oW Y xo h0 h1 hh hb2 sl a0 a1 sv tz az ρ nx ct rr κ0 κ1 fl (1 + 0) (setN lt 0 76) γ κ γ1 gg δ0 δ1 lf tk bt bw) H locs := hw
      have hw : xW G A s.heap (oW Y xo h0 h1 hh hb2 sl a0 a1 sv tz az ρ nx ct rr κ0 κ1 fl 1 (setN lt 0 76) γ κ γ1 gg δ0 δ1 lf tk bt bw) H locs := hw
      refine x_topN (n := 1) rfl ?_
      refine lv_aload_n hx hb dL_act_387 rfl (lv_at hl 3 rfl) ?_
      refine lv_iconst (v := (nI 0)) hx hb dL_act_388 (by decide) ?_
      refine lv_bipush (v := (nI 98)) hx hb dL_act_389 (by decide) ?_
      refine lv_iconst (v := (nI 0)) hx hb dL_act_391 (by decide) ?_
      refine lv_iconst (v := (nI 0)) hx hb dL_act_392 (by decide) ?_
      refine x_cSG (As := [.ref xo, .int (nI 0), .int (nI 98), .int (nI 0), .int (nI 0)]) (oK_append l G Y xo h0 h1 hh hb2 sl a0 a1 sv tz az ρ nx ct rr κ0 κ1 fl 1 (setN lt 0 76) γ κ γ1 gg δ0 δ1 lf tk bt bw _ (by decide) (lt_set (hO.hlt) (by omega)) (by omega) (by decide) _ _) cw_L_192 [0, 1, 2, 3, 4, 5, 6, 7, 8, 9, 10] M hK hZ hN hw hl.1 rfl (by decide) ⟨by decide, by decide⟩ ⟨by show _ ≤ 10; omega, by show _ ≤ 60; omega⟩ rfl rfl (Nat.le_of_ble_eq_true rfl) dL_act_393 (fun r sg h_4 ha H locs hw => ?_)
      obtain ⟨rfl, rfl⟩ := h_4
      have hw : xW G A s.heap (oW Y xo h0 h1 hh hb2 sl a0 a1 sv tz az ρ nx ct rr κ0 κ1 fl (1 + 1) (setN (setN lt 0 76) 1 98) γ κ γ1 gg δ0 δ1 lf tk bt bw) H locs := hw
      have hw : xW G A s.heap (oW Y xo h0 h1 hh hb2 sl a0 a1 sv tz az ρ nx ct rr κ0 κ1 fl 2 (setN (setN lt 0 76) 1 98) γ κ γ1 gg δ0 δ1 lf tk bt bw) H locs := hw
      refine x_topN (n := 2) rfl ?_
      refine x_iadd M (n := 3) dL_act_396 rfl ?_
      refine lv_aload_n hx hb dL_act_397 rfl (lv_at hl 3 rfl) ?_
      refine lv_iconst (v := (nI 0)) hx hb dL_act_398 (by decide) ?_
      refine lv_bipush (v := (nI 48)) hx hb dL_act_399 (by decide) ?_
      refine lv_iload_n hx hb dL_act_401 rfl (lv_at hl 5 rfl) ?_
      refine lv_bipush (v := (nI 10)) hx hb dL_act_402 (by decide) ?_
      refine x_irem M (n := y % 10) dL_act_404 (by omega) (by omega) (by decide) rfl ?_
      refine x_iadd M (n := 48 + (y % 10)) dL_act_405 rfl ?_
      refine lv_iconst (v := (nI 0)) hx hb dL_act_406 (by decide) ?_
      refine lv_iconst (v := (nI 0)) hx hb dL_act_407 (by decide) ?_
      refine x_cSG (As := [.ref xo, .int (nI 0), .int (nI (48 + (y % 10))), .int (nI 0), .int (nI 0)]) (oK_append l G Y xo h0 h1 hh hb2 sl a0 a1 sv tz az ρ nx ct rr κ0 κ1 fl 2 (setN (setN lt 0 76) 1 98) γ κ γ1 gg δ0 δ1 lf tk bt bw _ (by decide) (lt_set (lt_set (hO.hlt) (by omega)) (by omega)) (by omega) (by decide) _ _) cw_L_192 [0, 1, 2, 3, 4, 5, 6, 7, 8, 9, 10] M hK hZ hN hw hl.1 rfl (by decide) ⟨by decide, by decide⟩ ⟨by show _ ≤ 10; omega, by show _ ≤ 60; omega⟩ rfl rfl (Nat.le_of_ble_eq_true rfl) dL_act_408 (fun r sg h_5 ha H locs hw => ?_)
      obtain ⟨rfl, rfl⟩ := h_5
      have hw : xW G A s.heap (oW Y xo h0 h1 hh hb2 sl a0 a1 sv tz az ρ nx ct rr κ0 κ1 fl (1 + 2) (setN (setN (setN lt 0 76) 1 98) 2 (48 + (y % 10))) γ κ γ1 gg δ0 δ1 lf tk bt bw) H locs := hw
      have hw : xW G A s.heap (oW Y xo h0 h1 hh hb2 sl a0 a1 sv tz az ρ nx ct rr κ0 κ1 fl 3 (setN (setN (setN lt 0 76) 1 98) 2 (48 + (y % 10))) γ κ γ1 gg δ0 δ1 lf tk bt bw) H locs := hw
      refine x_topN (n := 3) rfl ?_
      refine x_iadd M (n := 6) dL_act_411 rfl ?_
      refine lv_aload_n hx hb dL_act_412 rfl (lv_at hl 3 rfl) ?_
      refine lv_iconst (v := (nI 0)) hx hb dL_act_413 (by decide) ?_
      refine lv_bipush (v := (nI 48)) hx hb dL_act_414 (by decide) ?_
      refine lv_iload_n hx hb dL_act_416 rfl (lv_at hl 5 rfl) ?_
      refine lv_bipush (v := (nI 16)) hx hb dL_act_417 (by decide) ?_
      refine x_idiv M (n := y / 16) dL_act_419 (by omega) (by omega) (by decide) rfl ?_
      refine lv_bipush (v := (nI 10)) hx hb dL_act_420 (by decide) ?_
      refine x_irem M (n := (y / 16) % 10) dL_act_422 (by omega) (by omega) (by decide) rfl ?_
      refine x_iadd M (n := 48 + ((y / 16) % 10)) dL_act_423 rfl ?_
      refine lv_iconst (v := (nI 0)) hx hb dL_act_424 (by decide) ?_
      refine lv_iconst (v := (nI 0)) hx hb dL_act_425 (by decide) ?_
      refine x_cSG (As := [.ref xo, .int (nI 0), .int (nI (48 + ((y / 16) % 10))), .int (nI 0), .int (nI 0)]) (oK_append l G Y xo h0 h1 hh hb2 sl a0 a1 sv tz az ρ nx ct rr κ0 κ1 fl 3 (setN (setN (setN lt 0 76) 1 98) 2 (48 + (y % 10))) γ κ γ1 gg δ0 δ1 lf tk bt bw _ (by decide) (lt_set (lt_set (lt_set (hO.hlt) (by omega)) (by omega)) (by omega)) (by omega) (by decide) _ _) cw_L_192 [0, 1, 2, 3, 4, 5, 6, 7, 8, 9, 10] M hK hZ hN hw hl.1 rfl (by decide) ⟨by decide, by decide⟩ ⟨by show _ ≤ 10; omega, by show _ ≤ 60; omega⟩ rfl rfl (Nat.le_of_ble_eq_true rfl) dL_act_426 (fun r sg h_6 ha H locs hw => ?_)
      obtain ⟨rfl, rfl⟩ := h_6
      have hw : xW G A s.heap (oW Y xo h0 h1 hh hb2 sl a0 a1 sv tz az ρ nx ct rr κ0 κ1 fl (1 + 3) (setN (setN (setN (setN lt 0 76) 1 98) 2 (48 + (y % 10))) 3 (48 + ((y / 16) % 10))) γ κ γ1 gg δ0 δ1 lf tk bt bw) H locs := hw
      have hw : xW G A s.heap (oW Y xo h0 h1 hh hb2 sl a0 a1 sv tz az ρ nx ct rr κ0 κ1 fl 4 (setN (setN (setN (setN lt 0 76) 1 98) 2 (48 + (y % 10))) 3 (48 + ((y / 16) % 10))) γ κ γ1 gg δ0 δ1 lf tk bt bw) H locs := hw
      refine x_topN (n := 4) rfl ?_
      refine x_iadd M (n := 10) dL_act_429 rfl ?_
      refine lv_aload_n hx hb dL_act_430 rfl (lv_at hl 3 rfl) ?_
      refine lv_iconst (v := (nI 0)) hx hb dL_act_431 (by decide) ?_
      refine lv_bipush (v := (nI 48)) hx hb dL_act_432 (by decide) ?_
      refine lv_iload_n hx hb dL_act_434 rfl (lv_at hl 5 rfl) ?_
      refine lv_sipush (v := (nI 256)) hx hb dL_act_435 (by decide) ?_
      refine x_idiv M (n := y / 256) dL_act_438 (by omega) (by omega) (by decide) rfl ?_
      refine lv_bipush (v := (nI 9)) hx hb dL_act_439 (by decide) ?_
      refine x_irem M (n := (y / 256) % 9) dL_act_441 (by omega) (by omega) (by decide) rfl ?_
      refine x_iadd M (n := 48 + ((y / 256) % 9)) dL_act_442 rfl ?_
      refine lv_iconst (v := (nI 0)) hx hb dL_act_443 (by decide) ?_
      refine lv_iconst (v := (nI 0)) hx hb dL_act_444 (by decide) ?_
      refine x_cSG (As := [.ref xo, .int (nI 0), .int (nI (48 + ((y / 256) % 9))), .int (nI 0), .int (nI 0)]) (oK_append l G Y xo h0 h1 hh hb2 sl a0 a1 sv tz az ρ nx ct rr κ0 κ1 fl 4 (setN (setN (setN (setN lt 0 76) 1 98) 2 (48 + (y % 10))) 3 (48 + ((y / 16) % 10))) γ κ γ1 gg δ0 δ1 lf tk bt bw _ (by decide) (lt_set (lt_set (lt_set (lt_set (hO.hlt) (by omega)) (by omega)) (by omega)) (by omega)) (by omega) (by decide) _ _) cw_L_192 [0, 1, 2, 3, 4, 5, 6, 7, 8, 9, 10] M hK hZ hN hw hl.1 rfl (by decide) ⟨by decide, by decide⟩ ⟨by show _ ≤ 10; omega, by show _ ≤ 60; omega⟩ rfl rfl (Nat.le_of_ble_eq_true rfl) dL_act_445 (fun r sg h_7 ha H locs hw => ?_)
      obtain ⟨rfl, rfl⟩ := h_7
      have hw : xW G A s.heap (oW Y xo h0 h1 hh hb2 sl a0 a1 sv tz az ρ nx ct rr κ0 κ1 fl (1 + 4) (setN (setN (setN (setN (setN lt 0 76) 1 98) 2 (48 + (y % 10))) 3 (48 + ((y / 16) % 10))) 4 (48 + ((y / 256) % 9))) γ κ γ1 gg δ0 δ1 lf tk bt bw) H locs := hw
      have hw : xW G A s.heap (oW Y xo h0 h1 hh hb2 sl a0 a1 sv tz az ρ nx ct rr κ0 κ1 fl 5 (setN (setN (setN (setN (setN lt 0 76) 1 98) 2 (48 + (y % 10))) 3 (48 + ((y / 16) % 10))) 4 (48 + ((y / 256) % 9))) γ κ γ1 gg δ0 δ1 lf tk bt bw) H locs := hw
      refine x_topN (n := 5) rfl ?_
      refine x_iadd M (n := 15) dL_act_448 rfl ?_
      refine lv_iload_n hx hb dL_act_449 rfl (lv_at hl 5 rfl) ?_
      refine lv_bipush (v := (nI 64)) hx hb dL_act_450 (by decide) ?_
      refine x_irem M (n := y % 64) dL_act_452 (by omega) (by omega) (by decide) rfl ?_
      refine x_zne M (tgt := 467) (by omega) dL_act_453 (by decide) (fun c_8 => by exfalso; omega) (fun c_8 => ?_)
      refine lv_aload_n hx hb dL_act_456 rfl (lv_at hl 3 rfl) ?_
      refine lv_iconst (v := (nI 1)) hx hb dL_act_457 (by decide) ?_
      refine lv_iconst (v := (nI 0)) hx hb dL_act_458 (by decide) ?_
      refine lv_iconst (v := (nI 0)) hx hb dL_act_459 (by decide) ?_
      refine lv_iconst (v := (nI 0)) hx hb dL_act_460 (by decide) ?_
      refine x_cSG (As := [.ref xo, .int (nI 1), .int (nI 0), .int (nI 0), .int (nI 0)]) (oK_load l G Y xo h0 h1 hh hb2 sl a0 a1 sv tz az ρ nx ct rr κ0 κ1 fl 5 (setN (setN (setN (setN (setN lt 0 76) 1 98) 2 (48 + (y % 10))) 3 (48 + ((y / 16) % 10))) 4 (48 + ((y / 256) % 9))) γ κ γ1 gg δ0 δ1 lf tk bt bw (by decide) (lt_set (lt_set (lt_set (lt_set (lt_set (hO.hlt) (by omega)) (by omega)) (by omega)) (by omega)) (by omega)) (he) _ _ _) cw_L_192 [0, 1, 2, 3, 4, 5, 6, 7, 8, 9, 10] M hK hZ hN hw hl.1 rfl (by decide) ⟨by decide, by decide⟩ ⟨by show _ ≤ 10; omega, by show _ ≤ 60; omega⟩ rfl rfl (Nat.le_of_ble_eq_true rfl) dL_act_461 (fun r sg h_9 ha H locs hw => ?_)
      obtain ⟨rfl, γ10, rfl⟩ := h_9
      have hw : xW G A s.heap (oW Y xo h0 h1 hh hb2 sl a0 a1 sv tz az ((tR (setN (setN (setN (setN (setN lt 0 76) 1 98) 2 (48 + (y % 10))) 3 (48 + ((y / 16) % 10))) 4 (48 + ((y / 256) % 9))) 5 1 row0 0).1) nx 0 rr κ0 κ1 (upd (upd fl 0 (nI 0)) 1 (nI 0)) 5 (setN (setN (setN (setN (setN lt 0 76) 1 98) 2 (48 + (y % 10))) 3 (48 + ((y / 16) % 10))) 4 (48 + ((y / 256) % 9))) γ10 κ γ1 gg δ0 δ1 lf tk bt bw) H locs := hw
      refine lv_goto (tgt := 468) hx hb dL_act_464 (by decide) ?_
      refine lv_iadd hx hb dL_act_468 ?_
      exact hret _ _ _ ((nI 15) + (nI ((tR (setN (setN (setN (setN (setN lt 0 76) 1 98) 2 (48 + (y % 10))) 3 (48 + ((y / 16) % 10))) 4 (48 + ((y / 256) % 9))) 5 1 row0 0).2))) _ _ _ _ (by show _ ≤ 10; omega) (by show _ ≤ 60; omega) dL_act_469 hw rfl rfl (hpp _ _ ⟨rfl, _, rfl⟩)
    skip
    · refine x_topN (n := 21) (congrArg nI hq) ?_
      refine lv_tableIn (tgt := 373) hx hb dL_act_34 (by decide) (by decide) rfl (by decide) ?_
      exact L373 _ _ _ hw hl
  refine lv_iload_n hx hb dL_act_9 rfl (lv_at hl 0 rfl) ?_
  refine x_zne M (tgt := 17) (by omega) dL_act_10 (by decide) (fun c_n => ?_) (fun c_n => ?_)
  · refine lv_iload_n hx hb dL_act_17 rfl (lv_at hl 3 rfl) ?_
    refine lv_iload_n hx hb dL_act_18 rfl (lv_at hl 0 rfl) ?_
    refine x_irem M (n := y % (ρ 4)) dL_act_19 (by omega) (by omega) (by omega) rfl ?_
    refine x_topN (n := aB ρ y) (congrArg nI (aB_1 c_n)) ?_
    refine W_widen (k := 1) (n := 6) (by omega) (by omega) ?_
    exact L20 _ _ _ hw (lv_sub hl [0, 1, 2, 3] rfl)
  refine lv_iconst (v := (nI 0)) hx hb dL_act_13 (by decide) ?_
  refine lv_goto (tgt := 20) hx hb dL_act_14 (by decide) ?_
  refine x_topN (n := aB ρ y) (congrArg nI (aB_0 c_n)) ?_
  refine W_widen (k := 1) (n := 6) (by omega) (by omega) ?_
  exact L20 _ _ _ hw (lv_sub hl [0, 1, 2, 3] rfl)
set_option maxHeartbeats 8000000 in
set_option maxRecDepth 20000 in
theorem a_text2 (l : Launch) (hfl : l.stackTraces = false) (G : va_G) (Y : Nat → Nat) (xo h0 h1 hh hb2 sl a0 a1 sv tz az : Nat) (ρ : Nat → Nat) (nx : Nat) (ct : Nat) (rr : Nat → Nat → Nat) (κ0 : Nat → Nat) (κ1 : Nat → Nat) (fl : Nat → Int32) (tn : Nat) (lt : Nat → Nat) (γ : Nat → Nat → Nat) (κ : Nat → Nat) (γ1 : Nat → Nat → Nat) (gg : Nat → Nat → Nat → Nat) (δ0 : Nat → Nat → Nat) (δ1 : Nat → Nat → Nat) (lf : Nat → Nat) (tk : Nat → Int32) (bt : Nat → Int32) (bw : Int32) (B x y : Nat) {post2 : Int32 → List va_W → Prop} (hO : OK B ρ nx ct rr κ0 κ1 fl tn lt) (hxx : x < 2 ^ 31) (hyy : y < 2 ^ 31) (hq : x % 24 = 21) (hy4 : y % 64 = 0) (he : errP (setN (setN (setN (setN (setN lt 0 76) 1 98) 2 (48 + (y % 10))) 3 (48 + ((y / 16) % 10))) 4 (48 + ((y / 256) % 9))) 5 ≠ 0) (hpp : ∀ r sg, (fun r sg => r = nI 15 + (-9999003) ∧ sg = oW Y xo h0 h1 hh hb2 sl a0 a1 sv tz az ρ nx ct rr κ0 κ1 fl 5 (setN (setN (setN (setN (setN lt 0 76) 1 98) 2 (48 + (y % 10))) 3 (48 + ((y / 16) % 10))) 4 (48 + ((y / 256) % 9))) γ κ γ1 gg δ0 δ1 lf tk bt bw) r sg → post2 r sg) : CtG l yL_act cL_act 6 .int 40 1500 10 60 [.ref xo, .int (nI x), .int (nI y)] (oW Y xo h0 h1 hh hb2 sl a0 a1 sv tz az ρ nx ct rr κ0 κ1 fl tn lt γ κ γ1 gg δ0 δ1 lf tk bt bw) (post2) G Y := by
  refine x_ofG (by decide) (Nat.le_of_ble_eq_true rfl) (fun p e s m args below meth c A ls Q M hK hZ hN hw hl hret => ?_)
  obtain ⟨hx, hb, -⟩ := id M
  have hl : lv_has ls 6 [(0, .ref xo), (1, .int (nI x)), (2, .int (nI y))] := hl
  have hI := hO.inv
  have h6 := hI.n6
  have haB := aB_le (ρ := ρ) (y := y)
  refine lv_aload_n hx hb dL_act_0 rfl (lv_at hl 0 rfl) ?_
  refine lv_iconst (v := (nI 2)) hx hb dL_act_1 (by decide) ?_
  refine lv_iconst (v := (nI 0)) hx hb dL_act_2 (by decide) ?_
  refine lv_iconst (v := (nI 0)) hx hb dL_act_3 (by decide) ?_
  refine lv_iconst (v := (nI 0)) hx hb dL_act_4 (by decide) ?_
  refine x_cSG (As := [.ref xo, .int (nI 2), .int (nI 0), .int (nI 0), .int (nI 0)]) (oK_about l G Y xo h0 h1 hh hb2 sl a0 a1 sv tz az ρ nx ct rr κ0 κ1 fl tn lt γ κ γ1 gg δ0 δ1 lf tk bt bw _ (hI) (by decide) _ _) cw_L_192 [0, 1, 2, 3, 4, 5, 6, 7, 8, 9, 10] M hK hZ hN hw hl.1 rfl (by decide) ⟨by decide, by decide⟩ ⟨by show _ ≤ 10; omega, by show _ ≤ 60; omega⟩ rfl rfl (Nat.le_of_ble_eq_true rfl) dL_act_5 (fun r sg h_1 ha H locs hw => ?_)
  obtain ⟨rfl, rfl⟩ := h_1
  have hw : xW G A s.heap (oW Y xo h0 h1 hh hb2 sl a0 a1 sv tz az ρ nx ct rr κ0 κ1 fl tn lt γ κ γ1 gg δ0 δ1 lf tk bt bw) H locs := hw
  refine x_topN (n := ρ 4) rfl ?_
  refine lv_istore_n (lv' := [(3, .int (nI (ρ 4))), (0, .ref xo), (1, .int (nI x)), (2, .int (nI y))]) hx hb dL_act_8 rfl hl (by decide) rfl (fun ls hl => ?_)
  have L20 : ∀ (H : Heap) (locs : List Loc) (ls : Array Slot), xW G A s.heap (oW Y xo h0 h1 hh hb2 sl a0 a1 sv tz az ρ nx ct rr κ0 κ1 fl tn lt γ κ γ1 gg δ0 δ1 lf tk bt bw) H locs → lv_has ls 6 [(3, .int (nI (ρ 4))), (0, .ref xo), (1, .int (nI x)), (2, .int (nI y))] → W p l e (xRmG 40 1500 10 60) s m args below meth c H locs 1 6 Q (F0 m 20 ls [.int (nI (aB ρ y))]) := by
    intro H locs ls hw hl
    refine lv_istore (lv' := [(4, .int (nI (aB ρ y))), (3, .int (nI (ρ 4))), (0, .ref xo), (1, .int (nI x)), (2, .int (nI y))]) hx hb dL_act_20 hl (by decide) rfl (fun ls hl => ?_)
    refine lv_iload_n hx hb dL_act_22 rfl (lv_at hl 4 rfl) ?_
    refine lv_bipush (v := (nI 8)) hx hb dL_act_23 (by decide) ?_
    refine x_idiv M (n := y / 8) dL_act_25 (by omega) (by omega) (by decide) rfl ?_
    refine lv_iconst (v := (nI 3)) hx hb dL_act_26 (by decide) ?_
    refine x_irem M (n := (y / 8) % 3) dL_act_27 (by omega) (by omega) (by decide) rfl ?_
    refine lv_istore (lv' := [(5, .int (nI ((y / 8) % 3))), (4, .int (nI (aB ρ y))), (3, .int (nI (ρ 4))), (0, .ref xo), (1, .int (nI x)), (2, .int (nI y))]) hx hb dL_act_28 hl (by decide) rfl (fun ls hl => ?_)
    refine lv_iload_n hx hb dL_act_30 rfl (lv_at hl 4 rfl) ?_
    refine lv_bipush (v := (nI 24)) hx hb dL_act_31 (by decide) ?_
    refine x_irem M (n := x % 24) dL_act_33 (by omega) (by omega) (by decide) rfl ?_
    have L373 : ∀ (H : Heap) (locs : List Loc) (ls : Array Slot), xW G A s.heap (oW Y xo h0 h1 hh hb2 sl a0 a1 sv tz az ρ nx ct rr κ0 κ1 fl tn lt γ κ γ1 gg δ0 δ1 lf tk bt bw) H locs → lv_has ls 6 [(5, .int (nI ((y / 8) % 3))), (4, .int (nI (aB ρ y))), (3, .int (nI (ρ 4))), (0, .ref xo), (1, .int (nI x)), (2, .int (nI y))] → W p l e (xRmG 40 1500 10 60) s m args below meth c H locs 1 6 Q (F0 m 373 ls []) := by
      intro H locs ls hw hl
      refine lv_aload_n hx hb dL_act_373 rfl (lv_at hl 3 rfl) ?_
      refine x_cVI (As := []) (k_X5_clearText l G Y xo h0 h1 hh sl sv tz az tn lt hO.hn hO.hlt) cw_L_226 [0, 9] 0 0 M hK hZ hw hl.1 rfl (by decide) rfl rfl rfl ⟨by decide, by decide⟩ ⟨by show _ ≤ 10; omega, by show _ ≤ 60; omega⟩ rfl rfl (Nat.le_of_ble_eq_true rfl) dL_act_374 (fun r sg h_2 H locs hw => ?_)
      obtain ⟨rfl, rfl⟩ := h_2
      have hw : xW G A s.heap (oW Y xo h0 h1 hh hb2 sl a0 a1 sv tz az ρ nx ct rr κ0 κ1 fl 0 lt γ κ γ1 gg δ0 δ1 lf tk bt bw) H locs := hw
      refine lv_pop hx hb dL_act_377 rfl ?_
      refine lv_aload_n hx hb dL_act_378 rfl (lv_at hl 3 rfl) ?_
      refine lv_iconst (v := (nI 0)) hx hb dL_act_379 (by decide) ?_
      refine lv_bipush (v := (nI 76)) hx hb dL_act_380 (by decide) ?_
      refine lv_iconst (v := (nI 0)) hx hb dL_act_382 (by decide) ?_
      refine lv_iconst (v := (nI 0)) hx hb dL_act_383 (by decide) ?_
      refine x_cSG (As := [.ref xo, .int (nI 0), .int (nI 76), .int (nI 0), .int (nI 0)]) (oK_append l G Y xo h0 h1 hh hb2 sl a0 a1 sv tz az ρ nx ct rr κ0 κ1 fl 0 lt γ κ γ1 gg δ0 δ1 lf tk bt bw _ (by decide) (hO.hlt) (by omega) (by decide) _ _) cw_L_192 [0, 1, 2, 3, 4, 5, 6, 7, 8, 9, 10] M hK hZ hN hw hl.1 rfl (by decide) ⟨by decide, by decide⟩ ⟨by show _ ≤ 10; omega, by show _ ≤ 60; omega⟩ rfl rfl (Nat.le_of_ble_eq_true rfl) dL_act_384 (fun r sg h_3 ha H locs hw => ?_)
      obtain ⟨rfl, rfl⟩ := h_3
      have hw : xW G A s.heap (oW Y xo h0 h1 hh hb2 sl a0 a1 sv tz az ρ nx ct rr κ0 κ1 fl (1 + 0) (setN lt 0 76) γ κ γ1 gg δ0 δ1 lf tk bt bw) H locs := hw
      have hw : xW G A s.heap (oW Y xo h0 h1 hh hb2 sl a0 a1 sv tz az ρ nx ct rr κ0 κ1 fl 1 (setN lt 0 76) γ κ γ1 gg δ0 δ1 lf tk bt bw) H locs := hw
      refine x_topN (n := 1) rfl ?_
      refine lv_aload_n hx hb dL_act_387 rfl (lv_at hl 3 rfl) ?_
      refine lv_iconst (v := (nI 0)) hx hb dL_act_388 (by decide) ?_
      refine lv_bipush (v := (nI 98)) hx hb dL_act_389 (by decide) ?_
      refine lv_iconst (v := (nI 0)) hx hb dL_act_391 (by decide) ?_
      refine lv_iconst (v := (nI 0)) hx hb dL_act_392 (by decide) ?_
      refine x_cSG (As := [.ref xo, .int (nI 0), .int (nI 98), .int (nI 0), .int (nI 0)]) (oK_append l G Y xo h0 h1 hh hb2 sl a0 a1 sv tz az ρ nx ct rr κ0 κ1 fl 1 (setN lt 0 76) γ κ γ1 gg δ0 δ1 lf tk bt bw _ (by decide) (lt_set (hO.hlt) (by omega)) (by omega) (by decide) _ _) cw_L_192 [0, 1, 2, 3, 4, 5, 6, 7, 8, 9, 10] M hK hZ hN hw hl.1 rfl (by decide) ⟨by decide, by decide⟩ ⟨by show _ ≤ 10; omega, by show _ ≤ 60; omega⟩ rfl rfl (Nat.le_of_ble_eq_true rfl) dL_act_393 (fun r sg h_4 ha H locs hw => ?_)
      obtain ⟨rfl, rfl⟩ := h_4
      have hw : xW G A s.heap (oW Y xo h0 h1 hh hb2 sl a0 a1 sv tz az ρ nx ct rr κ0 κ1 fl (1 + 1) (setN (setN lt 0 76) 1 98) γ κ γ1 gg δ0 δ1 lf tk bt bw) H locs := hw
      have hw : xW G A s.heap (oW Y xo h0 h1 hh hb2 sl a0 a1 sv tz az ρ nx ct rr κ0 κ1 fl 2 (setN (setN lt 0 76) 1 98) γ κ γ1 gg δ0 δ1 lf tk bt bw) H locs := hw
      refine x_topN (n := 2) rfl ?_
      refine x_iadd M (n := 3) dL_act_396 rfl ?_
      refine lv_aload_n hx hb dL_act_397 rfl (lv_at hl 3 rfl) ?_
      refine lv_iconst (v := (nI 0)) hx hb dL_act_398 (by decide) ?_
      refine lv_bipush (v := (nI 48)) hx hb dL_act_399 (by decide) ?_
      refine lv_iload_n hx hb dL_act_401 rfl (lv_at hl 5 rfl) ?_
      refine lv_bipush (v := (nI 10)) hx hb dL_act_402 (by decide) ?_
      refine x_irem M (n := y % 10) dL_act_404 (by omega) (by omega) (by decide) rfl ?_
      refine x_iadd M (n := 48 + (y % 10)) dL_act_405 rfl ?_
      refine lv_iconst (v := (nI 0)) hx hb dL_act_406 (by decide) ?_
      refine lv_iconst (v := (nI 0)) hx hb dL_act_407 (by decide) ?_
      refine x_cSG (As := [.ref xo, .int (nI 0), .int (nI (48 + (y % 10))), .int (nI 0), .int (nI 0)]) (oK_append l G Y xo h0 h1 hh hb2 sl a0 a1 sv tz az ρ nx ct rr κ0 κ1 fl 2 (setN (setN lt 0 76) 1 98) γ κ γ1 gg δ0 δ1 lf tk bt bw _ (by decide) (lt_set (lt_set (hO.hlt) (by omega)) (by omega)) (by omega) (by decide) _ _) cw_L_192 [0, 1, 2, 3, 4, 5, 6, 7, 8, 9, 10] M hK hZ hN hw hl.1 rfl (by decide) ⟨by decide, by decide⟩ ⟨by show _ ≤ 10; omega, by show _ ≤ 60; omega⟩ rfl rfl (Nat.le_of_ble_eq_true rfl) dL_act_408 (fun r sg h_5 ha H locs hw => ?_)
      obtain ⟨rfl, rfl⟩ := h_5
      have hw : xW G A s.heap (oW Y xo h0 h1 hh hb2 sl a0 a1 sv tz az ρ nx ct rr κ0 κ1 fl (1 + 2) (setN (setN (setN lt 0 76) 1 98) 2 (48 + (y % 10))) γ κ γ1 gg δ0 δ1 lf tk bt bw) H locs := hw
      have hw : xW G A s.heap (oW Y xo h0 h1 hh hb2 sl a0 a1 sv tz az ρ nx ct rr κ0 κ1 fl 3 (setN (setN (setN lt 0 76) 1 98) 2 (48 + (y % 10))) γ κ γ1 gg δ0 δ1 lf tk bt bw) H locs := hw
      refine x_topN (n := 3) rfl ?_
      refine x_iadd M (n := 6) dL_act_411 rfl ?_
      refine lv_aload_n hx hb dL_act_412 rfl (lv_at hl 3 rfl) ?_
      refine lv_iconst (v := (nI 0)) hx hb dL_act_413 (by decide) ?_
      refine lv_bipush (v := (nI 48)) hx hb dL_act_414 (by decide) ?_
      refine lv_iload_n hx hb dL_act_416 rfl (lv_at hl 5 rfl) ?_
      refine lv_bipush (v := (nI 16)) hx hb dL_act_417 (by decide) ?_
      refine x_idiv M (n := y / 16) dL_act_419 (by omega) (by omega) (by decide) rfl ?_
      refine lv_bipush (v := (nI 10)) hx hb dL_act_420 (by decide) ?_
      refine x_irem M (n := (y / 16) % 10) dL_act_422 (by omega) (by omega) (by decide) rfl ?_
      refine x_iadd M (n := 48 + ((y / 16) % 10)) dL_act_423 rfl ?_
      refine lv_iconst (v := (nI 0)) hx hb dL_act_424 (by decide) ?_
      refine lv_iconst (v := (nI 0)) hx hb dL_act_425 (by decide) ?_
      refine x_cSG (As := [.ref xo, .int (nI 0), .int (nI (48 + ((y / 16) % 10))), .int (nI 0), .int (nI 0)]) (oK_append l G Y xo h0 h1 hh hb2 sl a0 a1 sv tz az ρ nx ct rr κ0 κ1 fl 3 (setN (setN (setN lt 0 76) 1 98) 2 (48 + (y % 10))) γ κ γ1 gg δ0 δ1 lf tk bt bw _ (by decide) (lt_set (lt_set (lt_set (hO.hlt) (by omega)) (by omega)) (by omega)) (by omega) (by decide) _ _) cw_L_192 [0, 1, 2, 3, 4, 5, 6, 7, 8, 9, 10] M hK hZ hN hw hl.1 rfl (by decide) ⟨by decide, by decide⟩ ⟨by show _ ≤ 10; omega, by show _ ≤ 60; omega⟩ rfl rfl (Nat.le_of_ble_eq_true rfl) dL_act_426 (fun r sg h_6 ha H locs hw => ?_)
      obtain ⟨rfl, rfl⟩ := h_6
      have hw : xW G A s.heap (oW Y xo h0 h1 hh hb2 sl a0 a1 sv tz az ρ nx ct rr κ0 κ1 fl (1 + 3) (setN (setN (setN (setN lt 0 76) 1 98) 2 (48 + (y % 10))) 3 (48 + ((y / 16) % 10))) γ κ γ1 gg δ0 δ1 lf tk bt bw) H locs := hw
      have hw : xW G A s.heap (oW Y xo h0 h1 hh hb2 sl a0 a1 sv tz az ρ nx ct rr κ0 κ1 fl 4 (setN (setN (setN (setN lt 0 76) 1 98) 2 (48 + (y % 10))) 3 (48 + ((y / 16) % 10))) γ κ γ1 gg δ0 δ1 lf tk bt bw) H locs := hw
      refine x_topN (n := 4) rfl ?_
      refine x_iadd M (n := 10) dL_act_429 rfl ?_
      refine lv_aload_n hx hb dL_act_430 rfl (lv_at hl 3 rfl) ?_
      refine lv_iconst (v := (nI 0)) hx hb dL_act_431 (by decide) ?_
      refine lv_bipush (v := (nI 48)) hx hb dL_act_432 (by decide) ?_
      refine lv_iload_n hx hb dL_act_434 rfl (lv_at hl 5 rfl) ?_
      refine lv_sipush (v := (nI 256)) hx hb dL_act_435 (by decide) ?_
      refine x_idiv M (n := y / 256) dL_act_438 (by omega) (by omega) (by decide) rfl ?_
      refine lv_bipush (v := (nI 9)) hx hb dL_act_439 (by decide) ?_
      refine x_irem M (n := (y / 256) % 9) dL_act_441 (by omega) (by omega) (by decide) rfl ?_
      refine x_iadd M (n := 48 + ((y / 256) % 9)) dL_act_442 rfl ?_
      refine lv_iconst (v := (nI 0)) hx hb dL_act_443 (by decide) ?_
      refine lv_iconst (v := (nI 0)) hx hb dL_act_444 (by decide) ?_
      refine x_cSG (As := [.ref xo, .int (nI 0), .int (nI (48 + ((y / 256) % 9))), .int (nI 0), .int (nI 0)]) (oK_append l G Y xo h0 h1 hh hb2 sl a0 a1 sv tz az ρ nx ct rr κ0 κ1 fl 4 (setN (setN (setN (setN lt 0 76) 1 98) 2 (48 + (y % 10))) 3 (48 + ((y / 16) % 10))) γ κ γ1 gg δ0 δ1 lf tk bt bw _ (by decide) (lt_set (lt_set (lt_set (lt_set (hO.hlt) (by omega)) (by omega)) (by omega)) (by omega)) (by omega) (by decide) _ _) cw_L_192 [0, 1, 2, 3, 4, 5, 6, 7, 8, 9, 10] M hK hZ hN hw hl.1 rfl (by decide) ⟨by decide, by decide⟩ ⟨by show _ ≤ 10; omega, by show _ ≤ 60; omega⟩ rfl rfl (Nat.le_of_ble_eq_true rfl) dL_act_445 (fun r sg h_7 ha H locs hw => ?_)
      obtain ⟨rfl, rfl⟩ := h_7
      have hw : xW G A s.heap (oW Y xo h0 h1 hh hb2 sl a0 a1 sv tz az ρ nx ct rr κ0 κ1 fl (1 + 4) (setN (setN (setN (setN (setN lt 0 76) 1 98) 2 (48 + (y % 10))) 3 (48 + ((y / 16) % 10))) 4 (48 + ((y / 256) % 9))) γ κ γ1 gg δ0 δ1 lf tk bt bw) H locs := hw
      have hw : xW G A s.heap (oW Y xo h0 h1 hh hb2 sl a0 a1 sv tz az ρ nx ct rr κ0 κ1 fl 5 (setN (setN (setN (setN (setN lt 0 76) 1 98) 2 (48 + (y % 10))) 3 (48 + ((y / 16) % 10))) 4 (48 + ((y / 256) % 9))) γ κ γ1 gg δ0 δ1 lf tk bt bw) H locs := hw
      refine x_topN (n := 5) rfl ?_
      refine x_iadd M (n := 15) dL_act_448 rfl ?_
      refine lv_iload_n hx hb dL_act_449 rfl (lv_at hl 5 rfl) ?_
      refine lv_bipush (v := (nI 64)) hx hb dL_act_450 (by decide) ?_
      refine x_irem M (n := y % 64) dL_act_452 (by omega) (by omega) (by decide) rfl ?_
      refine x_zne M (tgt := 467) (by omega) dL_act_453 (by decide) (fun c_8 => by exfalso; omega) (fun c_8 => ?_)
      refine lv_aload_n hx hb dL_act_456 rfl (lv_at hl 3 rfl) ?_
      refine lv_iconst (v := (nI 1)) hx hb dL_act_457 (by decide) ?_
      refine lv_iconst (v := (nI 0)) hx hb dL_act_458 (by decide) ?_
      refine lv_iconst (v := (nI 0)) hx hb dL_act_459 (by decide) ?_
      refine lv_iconst (v := (nI 0)) hx hb dL_act_460 (by decide) ?_
      refine x_cSG (As := [.ref xo, .int (nI 1), .int (nI 0), .int (nI 0), .int (nI 0)]) (oT_load l hfl G Y xo h0 h1 hh hb2 sl a0 a1 sv tz az ρ nx ct rr κ0 κ1 fl 5 (setN (setN (setN (setN (setN lt 0 76) 1 98) 2 (48 + (y % 10))) 3 (48 + ((y / 16) % 10))) 4 (48 + ((y / 256) % 9))) γ κ γ1 gg δ0 δ1 lf tk bt bw (by decide) (lt_set (lt_set (lt_set (lt_set (lt_set (hO.hlt) (by omega)) (by omega)) (by omega)) (by omega)) (by omega)) (he) _ _ _) cw_L_192 [0, 1, 2, 3, 4, 5, 6, 7, 8, 9, 10] M hK hZ hN hw hl.1 rfl (by decide) ⟨by decide, by decide⟩ ⟨by show _ ≤ 10; omega, by show _ ≤ 60; omega⟩ rfl rfl (Nat.le_of_ble_eq_true rfl) dL_act_461 (fun r sg h_9 ha H locs hw => ?_)
      obtain ⟨rfl, rfl⟩ := h_9
      have hw : xW G A s.heap (oW Y xo h0 h1 hh hb2 sl a0 a1 sv tz az ρ nx ct rr κ0 κ1 fl 5 (setN (setN (setN (setN (setN lt 0 76) 1 98) 2 (48 + (y % 10))) 3 (48 + ((y / 16) % 10))) 4 (48 + ((y / 256) % 9))) γ κ γ1 gg δ0 δ1 lf tk bt bw) H locs := hw
      refine lv_goto (tgt := 468) hx hb dL_act_464 (by decide) ?_
      refine lv_iadd hx hb dL_act_468 ?_
      exact hret _ _ _ ((nI 15) + (-9999003)) _ _ _ _ (by show _ ≤ 10; omega) (by show _ ≤ 60; omega) dL_act_469 hw rfl rfl (hpp _ _ ⟨rfl, rfl⟩)
    skip
    · refine x_topN (n := 21) (congrArg nI hq) ?_
      refine lv_tableIn (tgt := 373) hx hb dL_act_34 (by decide) (by decide) rfl (by decide) ?_
      exact L373 _ _ _ hw hl
  refine lv_iload_n hx hb dL_act_9 rfl (lv_at hl 0 rfl) ?_
  refine x_zne M (tgt := 17) (by omega) dL_act_10 (by decide) (fun c_n => ?_) (fun c_n => ?_)
  · refine lv_iload_n hx hb dL_act_17 rfl (lv_at hl 3 rfl) ?_
    refine lv_iload_n hx hb dL_act_18 rfl (lv_at hl 0 rfl) ?_
    refine x_irem M (n := y % (ρ 4)) dL_act_19 (by omega) (by omega) (by omega) rfl ?_
    refine x_topN (n := aB ρ y) (congrArg nI (aB_1 c_n)) ?_
    refine W_widen (k := 1) (n := 6) (by omega) (by omega) ?_
    exact L20 _ _ _ hw (lv_sub hl [0, 1, 2, 3] rfl)
  refine lv_iconst (v := (nI 0)) hx hb dL_act_13 (by decide) ?_
  refine lv_goto (tgt := 20) hx hb dL_act_14 (by decide) ?_
  refine x_topN (n := aB ρ y) (congrArg nI (aB_0 c_n)) ?_
  refine W_widen (k := 1) (n := 6) (by omega) (by omega) ?_
  exact L20 _ _ _ hw (lv_sub hl [0, 1, 2, 3] rfl)
