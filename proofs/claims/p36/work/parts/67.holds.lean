set_option maxHeartbeats 8000000 in
set_option maxRecDepth 20000 in
theorem c_L_holds (l : Launch) (hfl : l.stackTraces = false) (G : va_G) (Y : Nat → Nat) (xo h0 h1 hh hb2 sl a0 a1 sv tz az : Nat) (ρ : Nat → Nat) (nx : Nat) (ct : Nat) (rr : Nat → Nat → Nat) (κ0 : Nat → Nat) (κ1 : Nat → Nat) (fl : Nat → Int32) (tn : Nat) (lt : Nat → Nat) (γ : Nat → Nat → Nat) (κ : Nat → Nat) (γ1 : Nat → Nat → Nat) (gg : Nat → Nat → Nat → Nat) (δ0 : Nat → Nat → Nat) (δ1 : Nat → Nat → Nat) (lf : Nat → Nat) (tk : Nat → Int32) (bt : Nat → Int32) (bw : Int32) (B x : Nat) (hO : OK B ρ nx ct rr κ0 κ1 fl tn lt) (hB : B < 2 ^ 30) (hxx : x < 2 ^ 31) : CtG l yL_holds cL_holds 22 .boolean 40 1500 170 1020 [.ref xo, .int (nI x)] (oW Y xo h0 h1 hh hb2 sl a0 a1 sv tz az ρ nx ct rr κ0 κ1 fl tn lt γ κ γ1 gg δ0 δ1 lf tk bt bw) (fun r sg => r = 1 ∧ ∃ (γa : Nat → Nat → Nat) (κa : Nat → Nat) (γb : Nat → Nat → Nat) (ga : Nat → Nat → Nat → Nat) (δa : Nat → Nat → Nat) (δb : Nat → Nat → Nat) (la : Nat → Nat) (ta : Nat → Int32) (ba : Nat → Int32) (wa : Int32), sg = oW Y xo h0 h1 hh hb2 sl a0 a1 sv tz az ρ nx (hCt ρ ct) (hRr ρ nx rr x) κ0 κ1 fl tn lt γa κa γb ga δa δb la ta ba wa) G Y := by
  refine x_ofG (by decide) (Nat.le_of_ble_eq_true rfl) (fun p e s m args below meth c A ls Q M hK hZ hN hw hl hret => ?_)
  obtain ⟨hx, hb, -⟩ := id M
  have hl : lv_has ls 22 [(0, .ref xo), (1, .int (nI x))] := hl
  have hI := hO.inv
  have hA := hO.good.2.1
  have h6 := hI.n6
  have h1v := hI.over
  have hct := hO.hct
  have hwA := worA_le (w := 0) (m := 0) hI
  have hcB := allCost_b hI
  have hnz := nZ_le (ρ := ρ)
  have hel := end_le (ρ := ρ)
  have heb := end_b hI (show x % 3 < 3 by omega)
  have hpb := hI.pri (q := 11 + (x % 3)) (show x % 3 < 3 by omega) rfl
  have hs5 := hI.sup (q := 5) (k := 0) (by decide) rfl
  have hs6 := hI.sup (q := 6) (k := 1) (by decide) rfl
  have hs7 := hI.sup (q := 7) (k := 2) (by decide) rfl
  have hE0 := hW_end hI
  have hE1 : hL ρ 0 (ρ 4) ≤ ρ 5 := hL_end hI (k := 0) (by decide)
  have hE2 : hL ρ 1 (ρ 4) ≤ ρ 6 := hL_end hI (k := 1) (by decide)
  have hE3 : hL ρ 2 (ρ 4) ≤ ρ 7 := hL_end hI (k := 2) (by decide)
  have hE4 := hC_end (ρ := ρ)
  refine lv_aload_n hx hb dL_holds_0 rfl (lv_at hl 0 rfl) ?_
  refine lv_iconst (v := (nI 2)) hx hb dL_holds_1 (by decide) ?_
  refine lv_iconst (v := (nI 0)) hx hb dL_holds_2 (by decide) ?_
  refine lv_iconst (v := (nI 0)) hx hb dL_holds_3 (by decide) ?_
  refine lv_iconst (v := (nI 0)) hx hb dL_holds_4 (by decide) ?_
  refine x_cSG (As := [.ref xo, .int (nI 2), .int (nI 0), .int (nI 0), .int (nI 0)]) (oK_about l G Y xo h0 h1 hh hb2 sl a0 a1 sv tz az ρ nx ct rr κ0 κ1 fl tn lt γ κ γ1 gg δ0 δ1 lf tk bt bw _ (hI) (by decide) _ _) cw_L_192 [0, 1, 2, 3, 4, 5, 6, 7, 8, 9, 10] M hK hZ hN hw hl.1 rfl (by decide) ⟨by decide, by decide⟩ ⟨by show _ ≤ 170; omega, by show _ ≤ 1020; omega⟩ rfl rfl (Nat.le_of_ble_eq_true rfl) dL_holds_5 (fun r sg h_1 ha H locs hw => ?_)
  obtain ⟨rfl, rfl⟩ := h_1
  have hw : xW G A s.heap (oW Y xo h0 h1 hh hb2 sl a0 a1 sv tz az ρ nx ct rr κ0 κ1 fl tn lt γ κ γ1 gg δ0 δ1 lf tk bt bw) H locs := hw
  refine x_topN (n := ρ 4) rfl ?_
  refine lv_istore_n (lv' := [(2, .int (nI (ρ 4))), (0, .ref xo), (1, .int (nI x))]) hx hb dL_holds_8 rfl hl (by decide) rfl (fun ls hl => ?_)
  refine lv_aload_n hx hb dL_holds_9 rfl (lv_at hl 1 rfl) ?_
  refine lv_iconst (v := (nI 2)) hx hb dL_holds_10 (by decide) ?_
  refine lv_iconst (v := (nI 2)) hx hb dL_holds_11 (by decide) ?_
  refine lv_iconst (v := (nI 0)) hx hb dL_holds_12 (by decide) ?_
  refine lv_iconst (v := (nI 0)) hx hb dL_holds_13 (by decide) ?_
  refine x_cSG (As := [.ref xo, .int (nI 2), .int (nI 2), .int (nI 0), .int (nI 0)]) (oK_about l G Y xo h0 h1 hh hb2 sl a0 a1 sv tz az ρ nx ct rr κ0 κ1 fl tn lt γ κ γ1 gg δ0 δ1 lf tk bt bw _ (hI) (by decide) _ _) cw_L_192 [0, 1, 2, 3, 4, 5, 6, 7, 8, 9, 10] M hK hZ hN hw hl.1 rfl (by decide) ⟨by decide, by decide⟩ ⟨by show _ ≤ 170; omega, by show _ ≤ 1020; omega⟩ rfl rfl (Nat.le_of_ble_eq_true rfl) dL_holds_14 (fun r sg h_2 ha H locs hw => ?_)
  obtain ⟨rfl, rfl⟩ := h_2
  have hw : xW G A s.heap (oW Y xo h0 h1 hh hb2 sl a0 a1 sv tz az ρ nx ct rr κ0 κ1 fl tn lt γ κ γ1 gg δ0 δ1 lf tk bt bw) H locs := hw
  refine x_topN (n := ρ 1) rfl ?_
  have L26 : ∀ (H : Heap) (locs : List Loc) (ls : Array Slot), xW G A s.heap (oW Y xo h0 h1 hh hb2 sl a0 a1 sv tz az ρ nx ct rr κ0 κ1 fl tn lt γ κ γ1 gg δ0 δ1 lf tk bt bw) H locs → lv_has ls 22 [(0, .ref xo), (1, .int (nI x)), (2, .int (nI (ρ 4)))] → W p l e (xRmG 40 1500 170 1020) s m args below meth c H locs 2 12 Q (F0 m 26 ls [.int (nI (ρ 1))]) := by
    intro H locs ls hw hl
    refine lv_istore_n (lv' := [(3, .int (nI (ρ 1))), (0, .ref xo), (1, .int (nI x)), (2, .int (nI (ρ 4)))]) hx hb dL_holds_26 rfl hl (by decide) rfl (fun ls hl => ?_)
    refine lv_aload_n hx hb dL_holds_27 rfl (lv_at hl 1 rfl) ?_
    refine x_cVI (As := []) (k_X5_best l G Y xo h0 h1 hh sl sv tz az lf tk bt bw ρ γ hI) cw_L_217 [0, 1, 10] 0 0 M hK hZ hw hl.1 rfl (by decide) rfl rfl rfl ⟨by decide, by decide⟩ ⟨by show _ ≤ 170; omega, by show _ ≤ 1020; omega⟩ rfl rfl (Nat.le_of_ble_eq_true rfl) dL_holds_28 (fun r sg h_3 H locs hw => ?_)
    obtain ⟨rfl, lf4, tk5, bt6, bw7, rfl⟩ := h_3
    have hw : xW G A s.heap (oW Y xo h0 h1 hh hb2 sl a0 a1 sv tz az ρ nx ct rr κ0 κ1 fl tn lt γ κ γ1 gg δ0 δ1 lf4 tk5 bt6 bw7) H locs := hw
    refine lv_istore (lv' := [(4, .int (nI (worA ρ 0 0))), (3, .int (nI (ρ 1))), (0, .ref xo), (1, .int (nI x)), (2, .int (nI (ρ 4)))]) hx hb dL_holds_31 hl (by decide) rfl (fun ls hl => ?_)
    refine lv_iconst (v := (nI 0)) hx hb dL_holds_33 (by decide) ?_
    refine lv_istore (lv' := [(5, .int (nI 0)), (4, .int (nI (worA ρ 0 0))), (3, .int (nI (ρ 1))), (0, .ref xo), (1, .int (nI x)), (2, .int (nI (ρ 4)))]) hx hb dL_holds_34 hl (by decide) rfl (fun ls hl => ?_)
    refine lv_iconst (v := (nI 0)) hx hb dL_holds_36 (by decide) ?_
    refine lv_istore (lv' := [(6, .int (nI 0)), (5, .int (nI 0)), (4, .int (nI (worA ρ 0 0))), (3, .int (nI (ρ 1))), (0, .ref xo), (1, .int (nI x)), (2, .int (nI (ρ 4)))]) hx hb dL_holds_37 hl (by decide) rfl (fun ls hl => ?_)
    refine lv_iload hx hb dL_holds_39 (lv_at hl 2 rfl) ?_
    refine x_zlt M (tgt := 48) (by omega) dL_holds_41 (by decide) ?_
    refine lv_iconst (v := (nI 1)) hx hb dL_holds_44 (by decide) ?_
    refine lv_goto (tgt := 49) hx hb dL_holds_45 (by decide) ?_
    refine lv_istore (lv' := [(7, .int (nI 1)), (6, .int (nI 0)), (5, .int (nI 0)), (4, .int (nI (worA ρ 0 0))), (3, .int (nI (ρ 1))), (0, .ref xo), (1, .int (nI x)), (2, .int (nI (ρ 4)))]) hx hb dL_holds_49 hl (by decide) rfl (fun ls hl => ?_)
    refine lv_iconst (v := (nI 0)) hx hb dL_holds_51 (by decide) ?_
    refine lv_istore (lv' := [(8, .int (nI 0)), (7, .int (nI 1)), (6, .int (nI 0)), (5, .int (nI 0)), (4, .int (nI (worA ρ 0 0))), (3, .int (nI (ρ 1))), (0, .ref xo), (1, .int (nI x)), (2, .int (nI (ρ 4)))]) hx hb dL_holds_52 hl (by decide) rfl (fun ls hl => ?_)
    refine lv_iconst (v := (nI 0)) hx hb dL_holds_54 (by decide) ?_
    refine lv_istore (lv' := [(9, .int (nI 0)), (8, .int (nI 0)), (7, .int (nI 1)), (6, .int (nI 0)), (5, .int (nI 0)), (4, .int (nI (worA ρ 0 0))), (3, .int (nI (ρ 1))), (0, .ref xo), (1, .int (nI x)), (2, .int (nI (ρ 4)))]) hx hb dL_holds_55 hl (by decide) rfl (fun ls hl => ?_)
    refine lv_iconst (v := (nI 0)) hx hb dL_holds_57 (by decide) ?_
    refine lv_istore (lv' := [(10, .int (nI 0)), (9, .int (nI 0)), (8, .int (nI 0)), (7, .int (nI 1)), (6, .int (nI 0)), (5, .int (nI 0)), (4, .int (nI (worA ρ 0 0))), (3, .int (nI (ρ 1))), (0, .ref xo), (1, .int (nI x)), (2, .int (nI (ρ 4)))]) hx hb dL_holds_58 hl (by decide) rfl (fun ls hl => ?_)
    have L385 : ∀ (lf_0_385 : Nat → Nat) (tk_0_385 : Nat → Int32) (bt_0_385 : Nat → Int32) (bw_0_385 : Int32) (H : Heap) (locs : List Loc) (ls : Array Slot), xW G A s.heap (oW Y xo h0 h1 hh hb2 sl a0 a1 sv tz az ρ nx ct rr κ0 κ1 fl tn lt γ κ γ1 gg δ0 δ1 lf_0_385 tk_0_385 bt_0_385 bw_0_385) H locs → lv_has ls 22 [(0, .ref xo), (1, .int (nI x)), (2, .int (nI (ρ 4))), (3, .int (nI (ρ 1))), (4, .int (nI (worA ρ 0 0))), (5, .int (nI (hW ρ (ρ 4)))), (6, .int (nI (hC ρ (ρ 4)))), (7, .int (nI 1)), (8, .int (nI (hL ρ 0 (ρ 4)))), (9, .int (nI (hL ρ 1 (ρ 4)))), (10, .int (nI (hL ρ 2 (ρ 4))))] → W p l e (xRmG 40 1500 170 1020) s m args below meth c H locs 134 804 Q (F0 m 385 ls []) := by
      intro lf_0_385 tk_0_385 bt_0_385 bw_0_385 H locs ls hw hl
      refine lv_iload hx hb dL_holds_385 (lv_at hl 7 rfl) ?_
      refine x_zeq M (tgt := 492) (by decide) dL_holds_387 (by decide) (fun c_8 => by exfalso; exact absurd c_8 (by decide)) (fun c_8 => ?_)
      refine lv_iload hx hb dL_holds_390 (lv_at hl 5 rfl) ?_
      refine lv_iload hx hb dL_holds_392 (lv_at hl 4 rfl) ?_
      refine x_cne M (tgt := 492) (by omega) (by omega) dL_holds_394 (by decide) (fun c_9 => by exfalso; have := hW_end hI; omega) (fun c_9 => ?_)
      refine lv_iload hx hb dL_holds_397 (lv_at hl 8 rfl) ?_
      refine lv_aload_n hx hb dL_holds_399 rfl (lv_at hl 0 rfl) ?_
      refine lv_iconst (v := (nI 3)) hx hb dL_holds_400 (by decide) ?_
      refine lv_iconst (v := (nI 0)) hx hb dL_holds_401 (by decide) ?_
      refine lv_iconst (v := (nI 0)) hx hb dL_holds_402 (by decide) ?_
      refine lv_iconst (v := (nI 0)) hx hb dL_holds_403 (by decide) ?_
      refine x_cSG (As := [.ref xo, .int (nI 3), .int (nI 0), .int (nI 0), .int (nI 0)]) (oK_kind l G Y xo h0 h1 hh hb2 sl a0 a1 sv tz az ρ nx ct rr κ0 κ1 fl tn lt γ κ γ1 gg δ0 δ1 lf_0_385 tk_0_385 bt_0_385 bw_0_385 _ _ (hI) (by decide) (by decide) _) cw_L_192 [0, 1, 2, 3, 4, 5, 6, 7, 8, 9, 10] M hK hZ hN hw hl.1 rfl (by decide) ⟨by decide, by decide⟩ ⟨by show _ ≤ 170; omega, by show _ ≤ 1020; omega⟩ rfl rfl (Nat.le_of_ble_eq_true rfl) dL_holds_404 (fun r sg h_10 ha H locs hw => ?_)
      obtain ⟨rfl, rfl⟩ := h_10
      have hw : xW G A s.heap (oW Y xo h0 h1 hh hb2 sl a0 a1 sv tz az ρ nx ct rr κ0 κ1 fl tn lt γ κ γ1 gg δ0 δ1 lf_0_385 tk_0_385 bt_0_385 bw_0_385) H locs := hw
      refine x_topN (n := ρ 5) rfl ?_
      refine x_cgt M (tgt := 492) (by omega) (by omega) dL_holds_407 (by decide) (fun c_11 => by exfalso; omega) (fun c_11 => ?_)
      refine lv_iload hx hb dL_holds_410 (lv_at hl 9 rfl) ?_
      refine lv_aload_n hx hb dL_holds_412 rfl (lv_at hl 0 rfl) ?_
      refine lv_iconst (v := (nI 3)) hx hb dL_holds_413 (by decide) ?_
      refine lv_iconst (v := (nI 1)) hx hb dL_holds_414 (by decide) ?_
      refine lv_iconst (v := (nI 0)) hx hb dL_holds_415 (by decide) ?_
      refine lv_iconst (v := (nI 0)) hx hb dL_holds_416 (by decide) ?_
      refine x_cSG (As := [.ref xo, .int (nI 3), .int (nI 1), .int (nI 0), .int (nI 0)]) (oK_kind l G Y xo h0 h1 hh hb2 sl a0 a1 sv tz az ρ nx ct rr κ0 κ1 fl tn lt γ κ γ1 gg δ0 δ1 lf_0_385 tk_0_385 bt_0_385 bw_0_385 _ _ (hI) (by decide) (by decide) _) cw_L_192 [0, 1, 2, 3, 4, 5, 6, 7, 8, 9, 10] M hK hZ hN hw hl.1 rfl (by decide) ⟨by decide, by decide⟩ ⟨by show _ ≤ 170; omega, by show _ ≤ 1020; omega⟩ rfl rfl (Nat.le_of_ble_eq_true rfl) dL_holds_417 (fun r sg h_12 ha H locs hw => ?_)
      obtain ⟨rfl, rfl⟩ := h_12
      have hw : xW G A s.heap (oW Y xo h0 h1 hh hb2 sl a0 a1 sv tz az ρ nx ct rr κ0 κ1 fl tn lt γ κ γ1 gg δ0 δ1 lf_0_385 tk_0_385 bt_0_385 bw_0_385) H locs := hw
      refine x_topN (n := ρ 6) rfl ?_
      refine x_cgt M (tgt := 492) (by omega) (by omega) dL_holds_420 (by decide) (fun c_13 => by exfalso; omega) (fun c_13 => ?_)
      refine lv_iload hx hb dL_holds_423 (lv_at hl 10 rfl) ?_
      refine lv_aload_n hx hb dL_holds_425 rfl (lv_at hl 0 rfl) ?_
      refine lv_iconst (v := (nI 3)) hx hb dL_holds_426 (by decide) ?_
      refine lv_iconst (v := (nI 2)) hx hb dL_holds_427 (by decide) ?_
      refine lv_iconst (v := (nI 0)) hx hb dL_holds_428 (by decide) ?_
      refine lv_iconst (v := (nI 0)) hx hb dL_holds_429 (by decide) ?_
      refine x_cSG (As := [.ref xo, .int (nI 3), .int (nI 2), .int (nI 0), .int (nI 0)]) (oK_kind l G Y xo h0 h1 hh hb2 sl a0 a1 sv tz az ρ nx ct rr κ0 κ1 fl tn lt γ κ γ1 gg δ0 δ1 lf_0_385 tk_0_385 bt_0_385 bw_0_385 _ _ (hI) (by decide) (by decide) _) cw_L_192 [0, 1, 2, 3, 4, 5, 6, 7, 8, 9, 10] M hK hZ hN hw hl.1 rfl (by decide) ⟨by decide, by decide⟩ ⟨by show _ ≤ 170; omega, by show _ ≤ 1020; omega⟩ rfl rfl (Nat.le_of_ble_eq_true rfl) dL_holds_430 (fun r sg h_14 ha H locs hw => ?_)
      obtain ⟨rfl, rfl⟩ := h_14
      have hw : xW G A s.heap (oW Y xo h0 h1 hh hb2 sl a0 a1 sv tz az ρ nx ct rr κ0 κ1 fl tn lt γ κ γ1 gg δ0 δ1 lf_0_385 tk_0_385 bt_0_385 bw_0_385) H locs := hw
      refine x_topN (n := ρ 7) rfl ?_
      refine x_cgt M (tgt := 492) (by omega) (by omega) dL_holds_433 (by decide) (fun c_15 => by exfalso; omega) (fun c_15 => ?_)
      refine lv_iload hx hb dL_holds_436 (lv_at hl 6 rfl) ?_
      refine lv_aload_n hx hb dL_holds_438 rfl (lv_at hl 0 rfl) ?_
      refine lv_iconst (v := (nI 2)) hx hb dL_holds_439 (by decide) ?_
      refine lv_iconst (v := (nI 5)) hx hb dL_holds_440 (by decide) ?_
      refine lv_iconst (v := (nI 0)) hx hb dL_holds_441 (by decide) ?_
      refine lv_iconst (v := (nI 0)) hx hb dL_holds_442 (by decide) ?_
      refine x_cSG (As := [.ref xo, .int (nI 2), .int (nI 5), .int (nI 0), .int (nI 0)]) (oK_about l G Y xo h0 h1 hh hb2 sl a0 a1 sv tz az ρ nx ct rr κ0 κ1 fl tn lt γ κ γ1 gg δ0 δ1 lf_0_385 tk_0_385 bt_0_385 bw_0_385 _ (hI) (by decide) _ _) cw_L_192 [0, 1, 2, 3, 4, 5, 6, 7, 8, 9, 10] M hK hZ hN hw hl.1 rfl (by decide) ⟨by decide, by decide⟩ ⟨by show _ ≤ 170; omega, by show _ ≤ 1020; omega⟩ rfl rfl (Nat.le_of_ble_eq_true rfl) dL_holds_443 (fun r sg h_16 ha H locs hw => ?_)
      obtain ⟨rfl, rfl⟩ := h_16
      have hw : xW G A s.heap (oW Y xo h0 h1 hh hb2 sl a0 a1 sv tz az ρ nx ct rr κ0 κ1 fl tn lt γ κ γ1 gg δ0 δ1 lf_0_385 tk_0_385 bt_0_385 bw_0_385) H locs := hw
      refine x_topN (n := allCost ρ) rfl ?_
      refine x_cne M (tgt := 492) (by omega) (by omega) dL_holds_446 (by decide) (fun c_17 => by exfalso; have := hC_end (ρ := ρ); omega) (fun c_17 => ?_)
      refine lv_aload_n hx hb dL_holds_449 rfl (lv_at hl 0 rfl) ?_
      refine lv_bipush (v := (nI 20)) hx hb dL_holds_450 (by decide) ?_
      refine lv_iload_n hx hb dL_holds_452 rfl (lv_at hl 1 rfl) ?_
      refine lv_iconst (v := (nI 3)) hx hb dL_holds_453 (by decide) ?_
      refine x_irem M (n := x % 3) dL_holds_454 (by omega) (by omega) (by decide) rfl ?_
      refine lv_iconst (v := (nI 0)) hx hb dL_holds_455 (by decide) ?_
      refine lv_iconst (v := (nI 0)) hx hb dL_holds_456 (by decide) ?_
      refine x_cSG (As := [.ref xo, .int (nI 20), .int (nI (x % 3)), .int (nI 0), .int (nI 0)]) (oK_oneMore l G Y xo h0 h1 hh hb2 sl a0 a1 sv tz az ρ nx ct rr κ0 κ1 fl tn lt γ κ γ1 gg δ0 δ1 lf_0_385 tk_0_385 bt_0_385 bw_0_385 _ (hI) (by omega) _ _) cw_L_192 [0, 1, 2, 3, 4, 5, 6, 7, 8, 9, 10] M hK hZ hN hw hl.1 rfl (by decide) ⟨by decide, by decide⟩ ⟨by show _ ≤ 170; omega, by show _ ≤ 1020; omega⟩ rfl rfl (Nat.le_of_ble_eq_true rfl) dL_holds_457 (fun r sg h_18 ha H locs hw => ?_)
      obtain ⟨rfl, lf19, tk20, bt21, bw22, rfl⟩ := h_18
      have hw : xW G A s.heap (oW Y xo h0 h1 hh hb2 sl a0 a1 sv tz az ρ nx ct rr κ0 κ1 fl tn lt γ κ γ1 gg δ0 δ1 lf19 tk20 bt21 bw22) H locs := hw
      refine x_topN (n := (worA ρ 0 (1 + (x % 3)) - worA ρ 0 0)) (pk_sub (worA_m hI)) ?_
      have hom := worA_le (w := 0) (m := 1 + (x % 3)) hI
      refine x_zlt M (tgt := 492) (by omega) dL_holds_460 (by decide) ?_
      refine lv_aload_n hx hb dL_holds_463 rfl (lv_at hl 0 rfl) ?_
      refine x_cVI (As := []) (k_X5_leastMissed l G Y xo h0 h1 hh sl sv tz az lf19 tk20 bt21 bw22 ρ γ hI) cw_L_220 [0, 1, 10] 0 0 M hK hZ hw hl.1 rfl (by decide) rfl rfl rfl ⟨by decide, by decide⟩ ⟨by show _ ≤ 170; omega, by show _ ≤ 1020; omega⟩ rfl rfl (Nat.le_of_ble_eq_true rfl) dL_holds_464 (fun r sg h_23 H locs hw => ?_)
      obtain ⟨rfl, lf24, tk25, bt26, bw27, rfl⟩ := h_23
      have hw : xW G A s.heap (oW Y xo h0 h1 hh hb2 sl a0 a1 sv tz az ρ nx ct rr κ0 κ1 fl tn lt γ κ γ1 gg δ0 δ1 lf24 tk25 bt26 bw27) H locs := hw
      have L476 : ∀ (H : Heap) (locs : List Loc) (ls : Array Slot), xW G A s.heap (oW Y xo h0 h1 hh hb2 sl a0 a1 sv tz az ρ nx ct rr κ0 κ1 fl tn lt γ κ γ1 gg δ0 δ1 lf24 tk25 bt26 bw27) H locs → lv_has ls 22 [(0, .ref xo), (1, .int (nI x)), (2, .int (nI (ρ 4))), (3, .int (nI (ρ 1))), (4, .int (nI (worA ρ 0 0))), (5, .int (nI (hW ρ (ρ 4)))), (6, .int (nI (hC ρ (ρ 4)))), (7, .int (nI 1)), (8, .int (nI (hL ρ 0 (ρ 4)))), (9, .int (nI (hL ρ 1 (ρ 4)))), (10, .int (nI (hL ρ 2 (ρ 4))))] → W p l e (xRmG 40 1500 170 1020) s m args below meth c H locs 139 834 Q (F0 m 476 ls [.int (nI (nZ ρ))]) := by
        intro H locs ls hw hl
        refine lv_iload_n hx hb dL_holds_476 rfl (lv_at hl 2 rfl) ?_
        have L485 : ∀ (H : Heap) (locs : List Loc) (ls : Array Slot), xW G A s.heap (oW Y xo h0 h1 hh hb2 sl a0 a1 sv tz az ρ nx ct rr κ0 κ1 fl tn lt γ κ γ1 gg δ0 δ1 lf24 tk25 bt26 bw27) H locs → lv_has ls 22 [(0, .ref xo), (1, .int (nI x)), (2, .int (nI (ρ 4))), (3, .int (nI (ρ 1))), (4, .int (nI (worA ρ 0 0))), (5, .int (nI (hW ρ (ρ 4)))), (6, .int (nI (hC ρ (ρ 4)))), (7, .int (nI 1)), (8, .int (nI (hL ρ 0 (ρ 4)))), (9, .int (nI (hL ρ 1 (ρ 4)))), (10, .int (nI (hL ρ 2 (ρ 4))))] → W p l e (xRmG 40 1500 170 1020) s m args below meth c H locs 139 834 Q (F0 m 485 ls [.int (nI (nZ ρ)), .int (nI (nZ ρ))]) := by
          intro H locs ls hw hl
          refine x_cne M (tgt := 492) (by omega) (by omega) dL_holds_485 (by decide) (fun c_28 => by exfalso; omega) (fun c_28 => ?_)
          refine lv_iconst (v := (nI 1)) hx hb dL_holds_488 (by decide) ?_
          refine lv_goto (tgt := 493) hx hb dL_holds_489 (by decide) ?_
          refine lv_istore (lv' := [(7, .int (nI 1)), (0, .ref xo), (1, .int (nI x)), (2, .int (nI (ρ 4))), (3, .int (nI (ρ 1))), (4, .int (nI (worA ρ 0 0))), (5, .int (nI (hW ρ (ρ 4)))), (6, .int (nI (hC ρ (ρ 4)))), (8, .int (nI (hL ρ 0 (ρ 4)))), (9, .int (nI (hL ρ 1 (ρ 4)))), (10, .int (nI (hL ρ 2 (ρ 4))))]) hx hb dL_holds_493 hl (by decide) rfl (fun ls hl => ?_)
          refine lv_aload_n hx hb dL_holds_495 rfl (lv_at hl 1 rfl) ?_
          refine x_cVI (As := []) (k_X5_roundsLeft l G Y xo h0 h1 hh sl sv tz az ρ γ κ γ1 hI) cw_L_223 [0, 1, 2] 0 0 M hK hZ hw hl.1 rfl (by decide) rfl rfl rfl ⟨by decide, by decide⟩ ⟨by show _ ≤ 170; omega, by show _ ≤ 1020; omega⟩ rfl rfl (Nat.le_of_ble_eq_true rfl) dL_holds_496 (fun r sg h_29 H locs hw => ?_)
          obtain ⟨rfl, γ30, rfl⟩ := h_29
          have hw : xW G A s.heap (oW Y xo h0 h1 hh hb2 sl a0 a1 sv tz az ρ nx ct rr κ0 κ1 fl tn lt γ ((endR ρ).1) γ30 gg δ0 δ1 lf24 tk25 bt26 bw27) H locs := hw
          refine lv_istore (lv' := [(11, .int (rlV ρ)), (7, .int (nI 1)), (0, .ref xo), (1, .int (nI x)), (2, .int (nI (ρ 4))), (3, .int (nI (ρ 1))), (4, .int (nI (worA ρ 0 0))), (5, .int (nI (hW ρ (ρ 4)))), (6, .int (nI (hC ρ (ρ 4)))), (8, .int (nI (hL ρ 0 (ρ 4)))), (9, .int (nI (hL ρ 1 (ρ 4)))), (10, .int (nI (hL ρ 2 (ρ 4))))]) hx hb dL_holds_499 hl (by decide) rfl (fun ls hl => ?_)
          refine lv_iload_n hx hb dL_holds_501 rfl (lv_at hl 3 rfl) ?_
          refine lv_iconst (v := (nI 3)) hx hb dL_holds_502 (by decide) ?_
          refine x_irem M (n := x % 3) dL_holds_503 (by omega) (by omega) (by decide) rfl ?_
          refine lv_istore (lv' := [(12, .int (nI (x % 3))), (11, .int (rlV ρ)), (7, .int (nI 1)), (0, .ref xo), (1, .int (nI x)), (2, .int (nI (ρ 4))), (3, .int (nI (ρ 1))), (4, .int (nI (worA ρ 0 0))), (5, .int (nI (hW ρ (ρ 4)))), (6, .int (nI (hC ρ (ρ 4)))), (8, .int (nI (hL ρ 0 (ρ 4)))), (9, .int (nI (hL ρ 1 (ρ 4)))), (10, .int (nI (hL ρ 2 (ρ 4))))]) hx hb dL_holds_504 hl (by decide) rfl (fun ls hl => ?_)
          refine lv_aload_n hx hb dL_holds_506 rfl (lv_at hl 3 rfl) ?_
          refine lv_bipush (v := (nI 22)) hx hb dL_holds_507 (by decide) ?_
          refine lv_iload hx hb dL_holds_509 (lv_at hl 0 rfl) ?_
          refine lv_iconst (v := (nI 0)) hx hb dL_holds_511 (by decide) ?_
          refine lv_iconst (v := (nI 0)) hx hb dL_holds_512 (by decide) ?_
          refine x_cSG (As := [.ref xo, .int (nI 22), .int (nI (x % 3)), .int (nI 0), .int (nI 0)]) (oK_endPrice l G Y xo h0 h1 hh hb2 sl a0 a1 sv tz az ρ nx ct rr κ0 κ1 fl tn lt γ ((endR ρ).1) γ30 gg δ0 δ1 lf24 tk25 bt26 bw27 _ (hI) (by omega) _ _) cw_L_192 [0, 1, 2, 3, 4, 5, 6, 7, 8, 9, 10] M hK hZ hN hw hl.1 rfl (by decide) ⟨by decide, by decide⟩ ⟨by show _ ≤ 170; omega, by show _ ≤ 1020; omega⟩ rfl rfl (Nat.le_of_ble_eq_true rfl) dL_holds_513 (fun r sg h_31 ha H locs hw => ?_)
          obtain ⟨rfl, γ32, rfl⟩ := h_31
          have hw : xW G A s.heap (oW Y xo h0 h1 hh hb2 sl a0 a1 sv tz az ρ nx ct rr κ0 κ1 fl tn lt γ ((endR ρ).1) γ32 gg δ0 δ1 lf24 tk25 bt26 bw27) H locs := hw
          refine x_topN (n := (endR ρ).1 (11 + (x % 3))) rfl ?_
          refine lv_istore (lv' := [(13, .int (nI ((endR ρ).1 (11 + (x % 3))))), (12, .int (nI (x % 3))), (11, .int (rlV ρ)), (7, .int (nI 1)), (0, .ref xo), (1, .int (nI x)), (2, .int (nI (ρ 4))), (3, .int (nI (ρ 1))), (4, .int (nI (worA ρ 0 0))), (5, .int (nI (hW ρ (ρ 4)))), (6, .int (nI (hC ρ (ρ 4)))), (8, .int (nI (hL ρ 0 (ρ 4)))), (9, .int (nI (hL ρ 1 (ρ 4)))), (10, .int (nI (hL ρ 2 (ρ 4))))]) hx hb dL_holds_516 hl (by decide) rfl (fun ls hl => ?_)
          refine lv_aload_n hx hb dL_holds_518 rfl (lv_at hl 4 rfl) ?_
          refine lv_iconst (v := (nI 3)) hx hb dL_holds_519 (by decide) ?_
          refine lv_iload hx hb dL_holds_520 (lv_at hl 1 rfl) ?_
          refine lv_iconst (v := (nI 2)) hx hb dL_holds_522 (by decide) ?_
          refine lv_iconst (v := (nI 0)) hx hb dL_holds_523 (by decide) ?_
          refine x_cSG (As := [.ref xo, .int (nI 3), .int (nI (x % 3)), .int (nI 2), .int (nI 0)]) (oK_kind l G Y xo h0 h1 hh hb2 sl a0 a1 sv tz az ρ nx ct rr κ0 κ1 fl tn lt γ ((endR ρ).1) γ32 gg δ0 δ1 lf24 tk25 bt26 bw27 _ _ (hI) (by omega) (by decide) _) cw_L_192 [0, 1, 2, 3, 4, 5, 6, 7, 8, 9, 10] M hK hZ hN hw hl.1 rfl (by decide) ⟨by decide, by decide⟩ ⟨by show _ ≤ 170; omega, by show _ ≤ 1020; omega⟩ rfl rfl (Nat.le_of_ble_eq_true rfl) dL_holds_524 (fun r sg h_33 ha H locs hw => ?_)
          obtain ⟨rfl, rfl⟩ := h_33
          have hw : xW G A s.heap (oW Y xo h0 h1 hh hb2 sl a0 a1 sv tz az ρ nx ct rr κ0 κ1 fl tn lt γ ((endR ρ).1) γ32 gg δ0 δ1 lf24 tk25 bt26 bw27) H locs := hw
          refine x_topN (n := ρ (11 + (x % 3))) rfl ?_
          refine lv_istore (lv' := [(14, .int (nI (ρ (11 + (x % 3))))), (13, .int (nI ((endR ρ).1 (11 + (x % 3))))), (12, .int (nI (x % 3))), (11, .int (rlV ρ)), (7, .int (nI 1)), (0, .ref xo), (1, .int (nI x)), (2, .int (nI (ρ 4))), (3, .int (nI (ρ 1))), (4, .int (nI (worA ρ 0 0))), (5, .int (nI (hW ρ (ρ 4)))), (6, .int (nI (hC ρ (ρ 4)))), (8, .int (nI (hL ρ 0 (ρ 4)))), (9, .int (nI (hL ρ 1 (ρ 4)))), (10, .int (nI (hL ρ 2 (ρ 4))))]) hx hb dL_holds_527 hl (by decide) rfl (fun ls hl => ?_)
          have L572 : ∀ (H : Heap) (locs : List Loc) (ls : Array Slot), xW G A s.heap (oW Y xo h0 h1 hh hb2 sl a0 a1 sv tz az ρ nx ct rr κ0 κ1 fl tn lt γ ((endR ρ).1) γ32 gg δ0 δ1 lf24 tk25 bt26 bw27) H locs → lv_has ls 22 [(14, .int (nI (ρ (11 + (x % 3))))), (13, .int (nI ((endR ρ).1 (11 + (x % 3))))), (12, .int (nI (x % 3))), (11, .int (rlV ρ)), (7, .int (nI 1)), (0, .ref xo), (1, .int (nI x)), (2, .int (nI (ρ 4))), (3, .int (nI (ρ 1))), (4, .int (nI (worA ρ 0 0)))] → W p l e (xRmG 40 1500 170 1020) s m args below meth c H locs 141 846 Q (F0 m 572 ls []) := by
            intro H locs ls hw hl
            refine lv_iconst (v := (nI 1)) hx hb dL_holds_572 (by decide) ?_
            refine lv_goto (tgt := 577) hx hb dL_holds_573 (by decide) ?_
            refine lv_istore (lv' := [(7, .int (nI 1)), (14, .int (nI (ρ (11 + (x % 3))))), (13, .int (nI ((endR ρ).1 (11 + (x % 3))))), (12, .int (nI (x % 3))), (11, .int (rlV ρ)), (0, .ref xo), (1, .int (nI x)), (2, .int (nI (ρ 4))), (3, .int (nI (ρ 1))), (4, .int (nI (worA ρ 0 0)))]) hx hb dL_holds_577 hl (by decide) rfl (fun ls hl => ?_)
            refine lv_iconst (v := (nI 0)) hx hb dL_holds_579 (by decide) ?_
            refine lv_istore (lv' := [(15, .int (nI 0)), (7, .int (nI 1)), (14, .int (nI (ρ (11 + (x % 3))))), (13, .int (nI ((endR ρ).1 (11 + (x % 3))))), (12, .int (nI (x % 3))), (11, .int (rlV ρ)), (0, .ref xo), (1, .int (nI x)), (2, .int (nI (ρ 4))), (3, .int (nI (ρ 1))), (4, .int (nI (worA ρ 0 0)))]) hx hb dL_holds_580 hl (by decide) rfl (fun ls hl => ?_)
            have L814 : ∀ (ct_0_814 : Nat) (rr_0_814 : Nat → Nat → Nat) (γ_0_814 : Nat → Nat → Nat) (κ_0_814 : Nat → Nat) (γ1_0_814 : Nat → Nat → Nat) (gg_0_814 : Nat → Nat → Nat → Nat) (δ0_0_814 : Nat → Nat → Nat) (δ1_0_814 : Nat → Nat → Nat) (lf_0_814 : Nat → Nat) (tk_0_814 : Nat → Int32) (bt_0_814 : Nat → Int32) (bw_0_814 : Int32) (H : Heap) (locs : List Loc) (ls : Array Slot) (hq : ct_0_814 = hCt ρ ct ∧ rr_0_814 = hRr ρ nx rr x), xW G A s.heap (oW Y xo h0 h1 hh hb2 sl a0 a1 sv tz az ρ nx ct_0_814 rr_0_814 κ0 κ1 fl tn lt γ_0_814 κ_0_814 γ1_0_814 gg_0_814 δ0_0_814 δ1_0_814 lf_0_814 tk_0_814 bt_0_814 bw_0_814) H locs → lv_has ls 22 [(15, .int (nI 0)), (7, .int (nI 1)), (14, .int (nI (ρ (11 + (x % 3))))), (12, .int (nI (x % 3))), (0, .ref xo), (1, .int (nI x)), (2, .int (nI (ρ 4))), (4, .int (nI (worA ρ 0 0)))] → W p l e (xRmG 40 1500 170 1020) s m args below meth c H locs 155 930 Q (F0 m 814 ls []) := by
              intro ct_0_814 rr_0_814 γ_0_814 κ_0_814 γ1_0_814 gg_0_814 δ0_0_814 δ1_0_814 lf_0_814 tk_0_814 bt_0_814 bw_0_814 H locs ls hq hw hl
              refine lv_iload hx hb dL_holds_814 (lv_at hl 1 rfl) ?_
              refine x_zeq M (tgt := 851) (by decide) dL_holds_816 (by decide) (fun c_34 => by exfalso; exact absurd c_34 (by decide)) (fun c_34 => ?_)
              refine lv_iload hx hb dL_holds_819 (lv_at hl 0 rfl) ?_
              refine x_zne M (tgt := 851) (by decide) dL_holds_821 (by decide) (fun c_35 => by exfalso; exact absurd c_35 (by decide)) (fun c_35 => ?_)
              refine lv_aload_n hx hb dL_holds_824 rfl (lv_at hl 4 rfl) ?_
              refine x_cVI (As := []) (k_X5_best l G Y xo h0 h1 hh sl sv tz az lf_0_814 tk_0_814 bt_0_814 bw_0_814 ρ γ_0_814 hI) cw_L_217 [0, 1, 10] 0 0 M hK hZ hw hl.1 rfl (by decide) rfl rfl rfl ⟨by decide, by decide⟩ ⟨by show _ ≤ 170; omega, by show _ ≤ 1020; omega⟩ rfl rfl (Nat.le_of_ble_eq_true rfl) dL_holds_825 (fun r sg h_36 H locs hw => ?_)
              obtain ⟨rfl, lf37, tk38, bt39, bw40, rfl⟩ := h_36
              have hw : xW G A s.heap (oW Y xo h0 h1 hh hb2 sl a0 a1 sv tz az ρ nx ct_0_814 rr_0_814 κ0 κ1 fl tn lt γ_0_814 κ_0_814 γ1_0_814 gg_0_814 δ0_0_814 δ1_0_814 lf37 tk38 bt39 bw40) H locs := hw
              refine lv_iload hx hb dL_holds_828 (lv_at hl 7 rfl) ?_
              refine x_cne M (tgt := 851) (by omega) (by omega) dL_holds_830 (by decide) (fun c_41 => by exfalso; omega) (fun c_41 => ?_)
              refine lv_aload_n hx hb dL_holds_833 rfl (lv_at hl 4 rfl) ?_
              refine lv_iconst (v := (nI 3)) hx hb dL_holds_834 (by decide) ?_
              refine lv_iload hx hb dL_holds_835 (lv_at hl 3 rfl) ?_
              refine lv_iconst (v := (nI 2)) hx hb dL_holds_837 (by decide) ?_
              refine lv_iconst (v := (nI 0)) hx hb dL_holds_838 (by decide) ?_
              refine x_cSG (As := [.ref xo, .int (nI 3), .int (nI (x % 3)), .int (nI 2), .int (nI 0)]) (oK_kind l G Y xo h0 h1 hh hb2 sl a0 a1 sv tz az ρ nx ct_0_814 rr_0_814 κ0 κ1 fl tn lt γ_0_814 κ_0_814 γ1_0_814 gg_0_814 δ0_0_814 δ1_0_814 lf37 tk38 bt39 bw40 _ _ (hI) (by omega) (by decide) _) cw_L_192 [0, 1, 2, 3, 4, 5, 6, 7, 8, 9, 10] M hK hZ hN hw hl.1 rfl (by decide) ⟨by decide, by decide⟩ ⟨by show _ ≤ 170; omega, by show _ ≤ 1020; omega⟩ rfl rfl (Nat.le_of_ble_eq_true rfl) dL_holds_839 (fun r sg h_42 ha H locs hw => ?_)
              obtain ⟨rfl, rfl⟩ := h_42
              have hw : xW G A s.heap (oW Y xo h0 h1 hh hb2 sl a0 a1 sv tz az ρ nx ct_0_814 rr_0_814 κ0 κ1 fl tn lt γ_0_814 κ_0_814 γ1_0_814 gg_0_814 δ0_0_814 δ1_0_814 lf37 tk38 bt39 bw40) H locs := hw
              refine x_topN (n := ρ (11 + (x % 3))) rfl ?_
              refine lv_iload hx hb dL_holds_842 (lv_at hl 2 rfl) ?_
              refine x_cne M (tgt := 851) (by omega) (by omega) dL_holds_844 (by decide) (fun c_43 => by exfalso; omega) (fun c_43 => ?_)
              refine lv_iconst (v := (nI 1)) hx hb dL_holds_847 (by decide) ?_
              refine lv_goto (tgt := 852) hx hb dL_holds_848 (by decide) ?_
              exact hret _ _ _ (nI 1) _ _ _ _ (by show _ ≤ 170; omega) (by show _ ≤ 1020; omega) dL_holds_852 hw rfl rfl ⟨rfl, _, _, _, _, _, _, _, _, _, _, by rw [← hq.1, ← hq.2]⟩
            refine lv_iload_n hx hb dL_holds_582 rfl (lv_at hl 9 rfl) ?_
            refine x_zne M (tgt := 814) (by omega) dL_holds_583 (by decide) (fun c_o => ?_) (fun c_o => ?_)
            · refine W_widen (k := 155) (n := 930) (by omega) (by omega) ?_
              exact L814 ct rr γ ((endR ρ).1) γ32 gg δ0 δ1 lf24 tk25 bt26 bw27 _ _ _ ⟨(if_neg (by omega)).symm, (if_neg (by omega)).symm⟩ hw (lv_sub hl [0, 1, 2, 4, 6, 7, 8, 10] rfl)
            refine lv_iload_n hx hb dL_holds_586 rfl (lv_at hl 8 rfl) ?_
            refine x_zle M (tgt := 814) (by omega) dL_holds_587 (by decide) (fun c_n => ?_) (fun c_n => ?_)
            · refine W_widen (k := 155) (n := 930) (by omega) (by omega) ?_
              exact L814 ct rr γ ((endR ρ).1) γ32 gg δ0 δ1 lf24 tk25 bt26 bw27 _ _ _ ⟨(if_neg (by omega)).symm, (if_neg (by omega)).symm⟩ hw (lv_sub hl [0, 1, 2, 4, 6, 7, 8, 10] rfl)
            have hbb : (x / 8 % ρ 4) < ρ 4 := Nat.mod_lt _ c_n
            refine lv_iload hx hb dL_holds_590 (lv_at hl 1 rfl) ?_
            refine x_zeq M (tgt := 814) (by decide) dL_holds_592 (by decide) (fun c_44 => by exfalso; exact absurd c_44 (by decide)) (fun c_44 => ?_)
            refine lv_iload_n hx hb dL_holds_595 rfl (lv_at hl 7 rfl) ?_
            refine lv_bipush (v := (nI 8)) hx hb dL_holds_596 (by decide) ?_
            refine x_idiv M (n := x / 8) dL_holds_598 (by omega) (by omega) (by decide) rfl ?_
            refine lv_iload_n hx hb dL_holds_599 rfl (lv_at hl 8 rfl) ?_
            refine x_irem M (n := (x / 8) % (ρ 4)) dL_holds_600 (by omega) (by omega) (by omega) rfl ?_
            refine lv_istore (lv' := [(16, .int (nI ((x / 8) % (ρ 4)))), (15, .int (nI 0)), (7, .int (nI 1)), (14, .int (nI (ρ (11 + (x % 3))))), (13, .int (nI ((endR ρ).1 (11 + (x % 3))))), (12, .int (nI (x % 3))), (11, .int (rlV ρ)), (0, .ref xo), (1, .int (nI x)), (2, .int (nI (ρ 4))), (3, .int (nI (ρ 1))), (4, .int (nI (worA ρ 0 0)))]) hx hb dL_holds_601 hl (by decide) rfl (fun ls hl => ?_)
            refine lv_aload_n hx hb dL_holds_603 rfl (lv_at hl 7 rfl) ?_
            refine lv_iconst (v := (nI 4)) hx hb dL_holds_604 (by decide) ?_
            refine lv_iload hx hb dL_holds_605 (lv_at hl 0 rfl) ?_
            refine lv_iconst (v := (nI 4)) hx hb dL_holds_607 (by decide) ?_
            refine lv_iconst (v := (nI 0)) hx hb dL_holds_608 (by decide) ?_
            refine x_cSG (As := [.ref xo, .int (nI 4), .int (nI ((x / 8) % (ρ 4))), .int (nI 4), .int (nI 0)]) (oK_bidder l G Y xo h0 h1 hh hb2 sl a0 a1 sv tz az ρ nx ct rr κ0 κ1 fl tn lt γ ((endR ρ).1) γ32 gg δ0 δ1 lf24 tk25 bt26 bw27 _ _ (hI) (hbb) (by decide) _) cw_L_192 [0, 1, 2, 3, 4, 5, 6, 7, 8, 9, 10] M hK hZ hN hw hl.1 rfl (by decide) ⟨by decide, by decide⟩ ⟨by show _ ≤ 170; omega, by show _ ≤ 1020; omega⟩ rfl rfl (Nat.le_of_ble_eq_true rfl) dL_holds_609 (fun r sg h_45 ha H locs hw => ?_)
            obtain ⟨rfl, rfl⟩ := h_45
            have hw : xW G A s.heap (oW Y xo h0 h1 hh hb2 sl a0 a1 sv tz az ρ nx ct rr κ0 κ1 fl tn lt γ ((endR ρ).1) γ32 gg δ0 δ1 lf24 tk25 bt26 bw27) H locs := hw
            refine x_topI (y := (prof ρ (x / 8 % ρ 4))) rfl ?_
            refine lv_istore (lv' := [(17, .int (prof ρ (x / 8 % ρ 4))), (16, .int (nI ((x / 8) % (ρ 4)))), (15, .int (nI 0)), (7, .int (nI 1)), (14, .int (nI (ρ (11 + (x % 3))))), (13, .int (nI ((endR ρ).1 (11 + (x % 3))))), (12, .int (nI (x % 3))), (11, .int (rlV ρ)), (0, .ref xo), (1, .int (nI x)), (2, .int (nI (ρ 4))), (3, .int (nI (ρ 1))), (4, .int (nI (worA ρ 0 0)))]) hx hb dL_holds_612 hl (by decide) rfl (fun ls hl => ?_)
            refine lv_aload_n hx hb dL_holds_614 rfl (lv_at hl 8 rfl) ?_
            refine lv_bipush (v := (nI 21)) hx hb dL_holds_615 (by decide) ?_
            refine lv_iload hx hb dL_holds_617 (lv_at hl 1 rfl) ?_
            refine lv_iload hx hb dL_holds_619 (lv_at hl 6 rfl) ?_
            refine lv_iconst (v := (nI 0)) hx hb dL_holds_621 (by decide) ?_
            refine x_cSG (As := [.ref xo, .int (nI 21), .int (nI ((x / 8) % (ρ 4))), .int (nI (x % 3)), .int (nI 0)]) (oK_wouldAsk l G Y xo h0 h1 hh hb2 sl a0 a1 sv tz az ρ nx ct rr κ0 κ1 fl tn lt γ ((endR ρ).1) γ32 gg δ0 δ1 lf24 tk25 bt26 bw27 _ _ (hI) (hbb) (by omega) _) cw_L_192 [0, 1, 2, 3, 4, 5, 6, 7, 8, 9, 10] M hK hZ hN hw hl.1 rfl (by decide) ⟨by decide, by decide⟩ ⟨by show _ ≤ 170; omega, by show _ ≤ 1020; omega⟩ rfl rfl (Nat.le_of_ble_eq_true rfl) dL_holds_622 (fun r sg h_46 ha H locs hw => ?_)
            obtain ⟨rfl, γ47, rfl⟩ := h_46
            have hw : xW G A s.heap (oW Y xo h0 h1 hh hb2 sl a0 a1 sv tz az ρ nx ct rr κ0 κ1 fl tn lt γ (mBid ρ ((x / 8) % (ρ 4))) γ47 gg δ0 δ1 lf24 tk25 bt26 bw27) H locs := hw
            refine x_topN (n := (mBid ρ (x / 8 % ρ 4)) (19 + 21 * (x / 8 % ρ 4) + (x % 3))) rfl ?_
            refine lv_istore (lv' := [(18, .int (nI ((mBid ρ (x / 8 % ρ 4)) (19 + 21 * (x / 8 % ρ 4) + (x % 3))))), (17, .int (prof ρ (x / 8 % ρ 4))), (16, .int (nI ((x / 8) % (ρ 4)))), (15, .int (nI 0)), (7, .int (nI 1)), (14, .int (nI (ρ (11 + (x % 3))))), (13, .int (nI ((endR ρ).1 (11 + (x % 3))))), (12, .int (nI (x % 3))), (11, .int (rlV ρ)), (0, .ref xo), (1, .int (nI x)), (2, .int (nI (ρ 4))), (3, .int (nI (ρ 1))), (4, .int (nI (worA ρ 0 0)))]) hx hb dL_holds_625 hl (by decide) rfl (fun ls hl => ?_)
            refine lv_aload_n hx hb dL_holds_627 rfl (lv_at hl 9 rfl) ?_
            refine lv_bipush (v := (nI 13)) hx hb dL_holds_628 (by decide) ?_
            refine lv_iload hx hb dL_holds_630 (lv_at hl 2 rfl) ?_
            refine lv_iconst (v := (nI 0)) hx hb dL_holds_632 (by decide) ?_
            refine lv_iconst (v := (nI 0)) hx hb dL_holds_633 (by decide) ?_
            refine x_cSG (As := [.ref xo, .int (nI 13), .int (nI ((x / 8) % (ρ 4))), .int (nI 0), .int (nI 0)]) (oK_bid l G Y xo h0 h1 hh hb2 sl a0 a1 sv tz az ρ nx ct rr κ0 κ1 fl tn lt γ (mBid ρ ((x / 8) % (ρ 4))) γ47 gg δ0 δ1 lf24 tk25 bt26 bw27 _ (hI) (hO.hnx) (hO.hct) (by omega) (tBid_ok hbb c_o) _ _) cw_L_192 [0, 1, 2, 3, 4, 5, 6, 7, 8, 9, 10] M hK hZ hN hw hl.1 rfl (by decide) ⟨by decide, by decide⟩ ⟨by show _ ≤ 170; omega, by show _ ≤ 1020; omega⟩ rfl rfl (Nat.le_of_ble_eq_true rfl) dL_holds_634 (fun r sg h_48 ha H locs hw => ?_)
            obtain ⟨rfl, γ49, rfl⟩ := h_48
            have hw : xW G A s.heap (oW Y xo h0 h1 hh hb2 sl a0 a1 sv tz az (mBid ρ ((x / 8) % (ρ 4))) (nxt nx) (min (ct + 1) 14) (setR rr nx ρ) κ0 κ1 fl tn lt γ49 (mBid ρ ((x / 8) % (ρ 4))) γ47 (setR gg nx γ) δ0 δ1 lf24 tk25 bt26 bw27) H locs := hw
            refine x_topI (y := (prof (mBid ρ (x / 8 % ρ 4)) (x / 8 % ρ 4))) rfl ?_
            have hI1 := Inv_mBid hI hbb
            have hA1 : Adm (mBid ρ (x / 8 % ρ 4)) := Adm_bid hA
            have hb1 : (x / 8 % ρ 4) < (mBid ρ (x / 8 % ρ 4)) 4 := by rw [bid_4]; exact hbb
            have hge := bid_ge hI hA hbb
            have hnx1 := nxt_lt hO.hnx
            refine lv_istore (lv' := [(19, .int (prof (mBid ρ (x / 8 % ρ 4)) (x / 8 % ρ 4))), (18, .int (nI ((mBid ρ (x / 8 % ρ 4)) (19 + 21 * (x / 8 % ρ 4) + (x % 3))))), (17, .int (prof ρ (x / 8 % ρ 4))), (16, .int (nI ((x / 8) % (ρ 4)))), (15, .int (nI 0)), (7, .int (nI 1)), (14, .int (nI (ρ (11 + (x % 3))))), (13, .int (nI ((endR ρ).1 (11 + (x % 3))))), (12, .int (nI (x % 3))), (11, .int (rlV ρ)), (0, .ref xo), (1, .int (nI x)), (2, .int (nI (ρ 4))), (3, .int (nI (ρ 1))), (4, .int (nI (worA ρ 0 0)))]) hx hb dL_holds_637 hl (by decide) rfl (fun ls hl => ?_)
            refine lv_iload hx hb dL_holds_639 (lv_at hl 0 rfl) ?_
            refine lv_iload hx hb dL_holds_641 (lv_at hl 2 rfl) ?_
            refine lv_icmp_lt (tgt := 684) hx hb dL_holds_643 (by decide) (fun c_50 => by exfalso; exact absurd c_50 (Int32.not_lt.mpr hge.1)) (fun c_50 => ?_)
            refine lv_iload hx hb dL_holds_646 (lv_at hl 0 rfl) ?_
            refine lv_if_lt (tgt := 684) hx hb dL_holds_648 (by decide) (fun c_51 => by exfalso; exact absurd c_51 (Int32.not_lt.mpr hge.2)) (fun c_51 => ?_)
            refine lv_aload_n hx hb dL_holds_651 rfl (lv_at hl 10 rfl) ?_
            refine lv_iconst (v := (nI 5)) hx hb dL_holds_652 (by decide) ?_
            refine lv_iload hx hb dL_holds_653 (lv_at hl 3 rfl) ?_
            refine lv_iload hx hb dL_holds_655 (lv_at hl 8 rfl) ?_
            refine lv_iconst (v := (nI 0)) hx hb dL_holds_657 (by decide) ?_
            refine x_cSG (As := [.ref xo, .int (nI 5), .int (nI ((x / 8) % (ρ 4))), .int (nI (x % 3)), .int (nI 0)]) (oK_demand l G Y xo h0 h1 hh hb2 sl a0 a1 sv tz az (mBid ρ ((x / 8) % (ρ 4))) (nxt nx) (min (ct + 1) 14) (setR rr nx ρ) κ0 κ1 fl tn lt γ49 (mBid ρ ((x / 8) % (ρ 4))) γ47 (setR gg nx γ) δ0 δ1 lf24 tk25 bt26 bw27 _ _ (hI1) (hb1) (by omega) _) cw_L_192 [0, 1, 2, 3, 4, 5, 6, 7, 8, 9, 10] M hK hZ hN hw hl.1 rfl (by decide) ⟨by decide, by decide⟩ ⟨by show _ ≤ 170; omega, by show _ ≤ 1020; omega⟩ rfl rfl (Nat.le_of_ble_eq_true rfl) dL_holds_658 (fun r sg h_52 ha H locs hw => ?_)
            obtain ⟨rfl, rfl⟩ := h_52
            have hw : xW G A s.heap (oW Y xo h0 h1 hh hb2 sl a0 a1 sv tz az (mBid ρ ((x / 8) % (ρ 4))) (nxt nx) (min (ct + 1) 14) (setR rr nx ρ) κ0 κ1 fl tn lt γ49 (mBid ρ ((x / 8) % (ρ 4))) γ47 (setR gg nx γ) δ0 δ1 lf24 tk25 bt26 bw27) H locs := hw
            refine x_topN (n := (mBid ρ (x / 8 % ρ 4)) (19 + 21 * (x / 8 % ρ 4) + (x % 3))) rfl ?_
            have hd1 := hI1.dem (q := 19 + 21 * (x / 8 % ρ 4) + (x % 3)) hb1 (show x % 3 < 3 by omega) rfl
            refine lv_iload hx hb dL_holds_661 (lv_at hl 1 rfl) ?_
            refine x_cne M (tgt := 684) (by omega) (by omega) dL_holds_663 (by decide) (fun c_53 => by exfalso; omega) (fun c_53 => ?_)
            refine lv_aload_n hx hb dL_holds_666 rfl (lv_at hl 10 rfl) ?_
            refine lv_iconst (v := (nI 4)) hx hb dL_holds_667 (by decide) ?_
            refine lv_iload hx hb dL_holds_668 (lv_at hl 3 rfl) ?_
            refine lv_iconst (v := (nI 4)) hx hb dL_holds_670 (by decide) ?_
            refine lv_iconst (v := (nI 0)) hx hb dL_holds_671 (by decide) ?_
            refine x_cSG (As := [.ref xo, .int (nI 4), .int (nI ((x / 8) % (ρ 4))), .int (nI 4), .int (nI 0)]) (oK_bidder l G Y xo h0 h1 hh hb2 sl a0 a1 sv tz az (mBid ρ ((x / 8) % (ρ 4))) (nxt nx) (min (ct + 1) 14) (setR rr nx ρ) κ0 κ1 fl tn lt γ49 (mBid ρ ((x / 8) % (ρ 4))) γ47 (setR gg nx γ) δ0 δ1 lf24 tk25 bt26 bw27 _ _ (hI1) (hb1) (by decide) _) cw_L_192 [0, 1, 2, 3, 4, 5, 6, 7, 8, 9, 10] M hK hZ hN hw hl.1 rfl (by decide) ⟨by decide, by decide⟩ ⟨by show _ ≤ 170; omega, by show _ ≤ 1020; omega⟩ rfl rfl (Nat.le_of_ble_eq_true rfl) dL_holds_672 (fun r sg h_54 ha H locs hw => ?_)
            obtain ⟨rfl, rfl⟩ := h_54
            have hw : xW G A s.heap (oW Y xo h0 h1 hh hb2 sl a0 a1 sv tz az (mBid ρ ((x / 8) % (ρ 4))) (nxt nx) (min (ct + 1) 14) (setR rr nx ρ) κ0 κ1 fl tn lt γ49 (mBid ρ ((x / 8) % (ρ 4))) γ47 (setR gg nx γ) δ0 δ1 lf24 tk25 bt26 bw27) H locs := hw
            refine x_topI (y := (prof (mBid ρ (x / 8 % ρ 4)) (x / 8 % ρ 4))) rfl ?_
            refine lv_iload hx hb dL_holds_675 (lv_at hl 0 rfl) ?_
            refine lv_icmp_ne (tgt := 684) hx hb dL_holds_677 (by decide) (fun z => absurd rfl z) (fun _ => ?_)
            refine lv_iconst (v := (nI 1)) hx hb dL_holds_680 (by decide) ?_
            refine lv_goto (tgt := 685) hx hb dL_holds_681 (by decide) ?_
            refine lv_istore (lv' := [(7, .int (nI 1)), (19, .int (prof (mBid ρ (x / 8 % ρ 4)) (x / 8 % ρ 4))), (18, .int (nI ((mBid ρ (x / 8 % ρ 4)) (19 + 21 * (x / 8 % ρ 4) + (x % 3))))), (17, .int (prof ρ (x / 8 % ρ 4))), (16, .int (nI ((x / 8) % (ρ 4)))), (15, .int (nI 0)), (14, .int (nI (ρ (11 + (x % 3))))), (13, .int (nI ((endR ρ).1 (11 + (x % 3))))), (12, .int (nI (x % 3))), (11, .int (rlV ρ)), (0, .ref xo), (1, .int (nI x)), (2, .int (nI (ρ 4))), (3, .int (nI (ρ 1))), (4, .int (nI (worA ρ 0 0)))]) hx hb dL_holds_685 hl (by decide) rfl (fun ls hl => ?_)
            refine lv_aload_n hx hb dL_holds_687 rfl (lv_at hl 10 rfl) ?_
            refine lv_iconst (v := (nI 4)) hx hb dL_holds_688 (by decide) ?_
            refine lv_iload hx hb dL_holds_689 (lv_at hl 4 rfl) ?_
            refine lv_iconst (v := (nI 0)) hx hb dL_holds_691 (by decide) ?_
            refine lv_iconst (v := (nI 0)) hx hb dL_holds_692 (by decide) ?_
            refine x_cSG (As := [.ref xo, .int (nI 4), .int (nI ((x / 8) % (ρ 4))), .int (nI 0), .int (nI 0)]) (oK_bidder l G Y xo h0 h1 hh hb2 sl a0 a1 sv tz az (mBid ρ ((x / 8) % (ρ 4))) (nxt nx) (min (ct + 1) 14) (setR rr nx ρ) κ0 κ1 fl tn lt γ49 (mBid ρ ((x / 8) % (ρ 4))) γ47 (setR gg nx γ) δ0 δ1 lf24 tk25 bt26 bw27 _ _ (hI1) (hb1) (by decide) _) cw_L_192 [0, 1, 2, 3, 4, 5, 6, 7, 8, 9, 10] M hK hZ hN hw hl.1 rfl (by decide) ⟨by decide, by decide⟩ ⟨by show _ ≤ 170; omega, by show _ ≤ 1020; omega⟩ rfl rfl (Nat.le_of_ble_eq_true rfl) dL_holds_693 (fun r sg h_55 ha H locs hw => ?_)
            obtain ⟨rfl, rfl⟩ := h_55
            have hw : xW G A s.heap (oW Y xo h0 h1 hh hb2 sl a0 a1 sv tz az (mBid ρ ((x / 8) % (ρ 4))) (nxt nx) (min (ct + 1) 14) (setR rr nx ρ) κ0 κ1 fl tn lt γ49 (mBid ρ ((x / 8) % (ρ 4))) γ47 (setR gg nx γ) δ0 δ1 lf24 tk25 bt26 bw27) H locs := hw
            refine x_topN (n := (mBid ρ (x / 8 % ρ 4)) (14 + 21 * (x / 8 % ρ 4))) rfl ?_
            have hr1 := hI1.rgt (q := 14 + 21 * (x / 8 % ρ 4)) hb1 rfl
            refine lv_istore (lv' := [(20, .int (nI ((mBid ρ (x / 8 % ρ 4)) (14 + 21 * (x / 8 % ρ 4))))), (7, .int (nI 1)), (19, .int (prof (mBid ρ (x / 8 % ρ 4)) (x / 8 % ρ 4))), (18, .int (nI ((mBid ρ (x / 8 % ρ 4)) (19 + 21 * (x / 8 % ρ 4) + (x % 3))))), (17, .int (prof ρ (x / 8 % ρ 4))), (16, .int (nI ((x / 8) % (ρ 4)))), (15, .int (nI 0)), (14, .int (nI (ρ (11 + (x % 3))))), (13, .int (nI ((endR ρ).1 (11 + (x % 3))))), (12, .int (nI (x % 3))), (11, .int (rlV ρ)), (0, .ref xo), (1, .int (nI x)), (2, .int (nI (ρ 4))), (3, .int (nI (ρ 1))), (4, .int (nI (worA ρ 0 0)))]) hx hb dL_holds_696 hl (by decide) rfl (fun ls hl => ?_)
            refine lv_aload_n hx hb dL_holds_698 rfl (lv_at hl 11 rfl) ?_
            refine lv_iconst (v := (nI 2)) hx hb dL_holds_699 (by decide) ?_
            refine lv_iconst (v := (nI 3)) hx hb dL_holds_700 (by decide) ?_
            refine lv_iconst (v := (nI 0)) hx hb dL_holds_701 (by decide) ?_
            refine lv_iconst (v := (nI 0)) hx hb dL_holds_702 (by decide) ?_
            refine x_cSG (As := [.ref xo, .int (nI 2), .int (nI 3), .int (nI 0), .int (nI 0)]) (oK_about l G Y xo h0 h1 hh hb2 sl a0 a1 sv tz az (mBid ρ ((x / 8) % (ρ 4))) (nxt nx) (min (ct + 1) 14) (setR rr nx ρ) κ0 κ1 fl tn lt γ49 (mBid ρ ((x / 8) % (ρ 4))) γ47 (setR gg nx γ) δ0 δ1 lf24 tk25 bt26 bw27 _ (hI1) (by decide) _ _) cw_L_192 [0, 1, 2, 3, 4, 5, 6, 7, 8, 9, 10] M hK hZ hN hw hl.1 rfl (by decide) ⟨by decide, by decide⟩ ⟨by show _ ≤ 170; omega, by show _ ≤ 1020; omega⟩ rfl rfl (Nat.le_of_ble_eq_true rfl) dL_holds_703 (fun r sg h_56 ha H locs hw => ?_)
            obtain ⟨rfl, rfl⟩ := h_56
            have hw : xW G A s.heap (oW Y xo h0 h1 hh hb2 sl a0 a1 sv tz az (mBid ρ ((x / 8) % (ρ 4))) (nxt nx) (min (ct + 1) 14) (setR rr nx ρ) κ0 κ1 fl tn lt γ49 (mBid ρ ((x / 8) % (ρ 4))) γ47 (setR gg nx γ) δ0 δ1 lf24 tk25 bt26 bw27) H locs := hw
            refine x_topN (n := scarce (mBid ρ (x / 8 % ρ 4))) rfl ?_
            have hs3 := scarce_le (ρ := mBid ρ (x / 8 % ρ 4))
            refine lv_istore (lv' := [(21, .int (nI (scarce (mBid ρ (x / 8 % ρ 4))))), (20, .int (nI ((mBid ρ (x / 8 % ρ 4)) (14 + 21 * (x / 8 % ρ 4))))), (7, .int (nI 1)), (19, .int (prof (mBid ρ (x / 8 % ρ 4)) (x / 8 % ρ 4))), (18, .int (nI ((mBid ρ (x / 8 % ρ 4)) (19 + 21 * (x / 8 % ρ 4) + (x % 3))))), (17, .int (prof ρ (x / 8 % ρ 4))), (16, .int (nI ((x / 8) % (ρ 4)))), (15, .int (nI 0)), (14, .int (nI (ρ (11 + (x % 3))))), (13, .int (nI ((endR ρ).1 (11 + (x % 3))))), (12, .int (nI (x % 3))), (11, .int (rlV ρ)), (0, .ref xo), (1, .int (nI x)), (2, .int (nI (ρ 4))), (3, .int (nI (ρ 1))), (4, .int (nI (worA ρ 0 0)))]) hx hb dL_holds_706 hl (by decide) rfl (fun ls hl => ?_)
            refine lv_iload hx hb dL_holds_708 (lv_at hl 2 rfl) ?_
            refine x_zeq M (tgt := 811) (by decide) dL_holds_710 (by decide) (fun c_57 => by exfalso; exact absurd c_57 (by decide)) (fun c_57 => ?_)
            refine lv_aload_n hx hb dL_holds_713 rfl (lv_at hl 12 rfl) ?_
            refine lv_bipush (v := (nI 14)) hx hb dL_holds_714 (by decide) ?_
            refine lv_iconst (v := (nI 0)) hx hb dL_holds_716 (by decide) ?_
            refine lv_iconst (v := (nI 0)) hx hb dL_holds_717 (by decide) ?_
            refine lv_iconst (v := (nI 0)) hx hb dL_holds_718 (by decide) ?_
            refine x_cSG (As := [.ref xo, .int (nI 14), .int (nI 0), .int (nI 0), .int (nI 0)]) (oK_close l G Y xo h0 h1 hh hb2 sl a0 a1 sv tz az (mBid ρ ((x / 8) % (ρ 4))) (nxt nx) (min (ct + 1) 14) (setR rr nx ρ) κ0 κ1 fl tn lt γ49 (mBid ρ ((x / 8) % (ρ 4))) γ47 (setR gg nx γ) δ0 δ1 lf24 tk25 bt26 bw27 (hI1) (hnx1) (by omega) (show whyClose _ = 0 by unfold whyClose; rw [bid_1, if_pos c_o]) _ _ _) cw_L_192 [0, 1, 2, 3, 4, 5, 6, 7, 8, 9, 10] M hK hZ hN hw hl.1 rfl (by decide) ⟨by decide, by decide⟩ ⟨by show _ ≤ 170; omega, by show _ ≤ 1020; omega⟩ rfl rfl (Nat.le_of_ble_eq_true rfl) dL_holds_719 (fun r sg h_58 ha H locs hw => ?_)
            obtain ⟨rfl, γ59, rfl⟩ := h_58
            have hw : xW G A s.heap (oW Y xo h0 h1 hh hb2 sl a0 a1 sv tz az (mClose (mBid ρ ((x / 8) % (ρ 4)))) (nxt (nxt nx)) (min ((min (ct + 1) 14) + 1) 14) (setR (setR rr nx ρ) (nxt nx) (mBid ρ ((x / 8) % (ρ 4)))) κ0 κ1 fl tn lt γ59 (mBid ρ ((x / 8) % (ρ 4))) γ47 (setR (setR gg nx γ) (nxt nx) γ49) δ0 δ1 lf24 tk25 bt26 bw27) H locs := hw
            refine x_topN (n := scarce (mBid ρ (x / 8 % ρ 4))) (congrArg nI scarce_cl1) ?_
            have hI2 := Inv_close hI1
            have hA2 := Adm_close hI1 hA1
            have hbb2 : (x / 8 % ρ 4) < (mClose (mBid ρ (x / 8 % ρ 4))) 4 := by rw [close_4]; exact hb1
            have hr2 := close_rgt (ρ := mBid ρ (x / 8 % ρ 4)) hb1
            have ha2 := hA2.2 _ hbb2
            have hr3 := hI2.rgt (q := 14 + 21 * (x / 8 % ρ 4)) hbb2 rfl
            have ho2 := hI2.over
            refine lv_iload hx hb dL_holds_722 (lv_at hl 0 rfl) ?_
            refine x_cne M (tgt := 811) (by omega) (by omega) dL_holds_724 (by decide) (fun c_60 => by exfalso; omega) (fun c_60 => ?_)
            refine lv_aload_n hx hb dL_holds_727 rfl (lv_at hl 12 rfl) ?_
            refine lv_iconst (v := (nI 2)) hx hb dL_holds_728 (by decide) ?_
            refine lv_iconst (v := (nI 2)) hx hb dL_holds_729 (by decide) ?_
            refine lv_iconst (v := (nI 0)) hx hb dL_holds_730 (by decide) ?_
            refine lv_iconst (v := (nI 0)) hx hb dL_holds_731 (by decide) ?_
            refine x_cSG (As := [.ref xo, .int (nI 2), .int (nI 2), .int (nI 0), .int (nI 0)]) (oK_about l G Y xo h0 h1 hh hb2 sl a0 a1 sv tz az (mClose (mBid ρ ((x / 8) % (ρ 4)))) (nxt (nxt nx)) (min ((min (ct + 1) 14) + 1) 14) (setR (setR rr nx ρ) (nxt nx) (mBid ρ ((x / 8) % (ρ 4)))) κ0 κ1 fl tn lt γ59 (mBid ρ ((x / 8) % (ρ 4))) γ47 (setR (setR gg nx γ) (nxt nx) γ49) δ0 δ1 lf24 tk25 bt26 bw27 _ (hI2) (by decide) _ _) cw_L_192 [0, 1, 2, 3, 4, 5, 6, 7, 8, 9, 10] M hK hZ hN hw hl.1 rfl (by decide) ⟨by decide, by decide⟩ ⟨by show _ ≤ 170; omega, by show _ ≤ 1020; omega⟩ rfl rfl (Nat.le_of_ble_eq_true rfl) dL_holds_732 (fun r sg h_61 ha H locs hw => ?_)
            obtain ⟨rfl, rfl⟩ := h_61
            have hw : xW G A s.heap (oW Y xo h0 h1 hh hb2 sl a0 a1 sv tz az (mClose (mBid ρ ((x / 8) % (ρ 4)))) (nxt (nxt nx)) (min ((min (ct + 1) 14) + 1) 14) (setR (setR rr nx ρ) (nxt nx) (mBid ρ ((x / 8) % (ρ 4)))) κ0 κ1 fl tn lt γ59 (mBid ρ ((x / 8) % (ρ 4))) γ47 (setR (setR gg nx γ) (nxt nx) γ49) δ0 δ1 lf24 tk25 bt26 bw27) H locs := hw
            refine x_topN (n := (mClose (mBid ρ (x / 8 % ρ 4))) 1) rfl ?_
            refine lv_iload hx hb dL_holds_735 (lv_at hl 0 rfl) ?_
            have L745 : ∀ (H : Heap) (locs : List Loc) (ls : Array Slot), xW G A s.heap (oW Y xo h0 h1 hh hb2 sl a0 a1 sv tz az (mClose (mBid ρ ((x / 8) % (ρ 4)))) (nxt (nxt nx)) (min ((min (ct + 1) 14) + 1) 14) (setR (setR rr nx ρ) (nxt nx) (mBid ρ ((x / 8) % (ρ 4)))) κ0 κ1 fl tn lt γ59 (mBid ρ ((x / 8) % (ρ 4))) γ47 (setR (setR gg nx γ) (nxt nx) γ49) δ0 δ1 lf24 tk25 bt26 bw27) H locs → lv_has ls 22 [(21, .int (nI (scarce (mBid ρ (x / 8 % ρ 4))))), (20, .int (nI ((mBid ρ (x / 8 % ρ 4)) (14 + 21 * (x / 8 % ρ 4))))), (7, .int (nI 1)), (19, .int (prof (mBid ρ (x / 8 % ρ 4)) (x / 8 % ρ 4))), (18, .int (nI ((mBid ρ (x / 8 % ρ 4)) (19 + 21 * (x / 8 % ρ 4) + (x % 3))))), (17, .int (prof ρ (x / 8 % ρ 4))), (16, .int (nI ((x / 8) % (ρ 4)))), (15, .int (nI 0)), (14, .int (nI (ρ (11 + (x % 3))))), (13, .int (nI ((endR ρ).1 (11 + (x % 3))))), (12, .int (nI (x % 3))), (11, .int (rlV ρ)), (0, .ref xo), (1, .int (nI x)), (2, .int (nI (ρ 4))), (3, .int (nI (ρ 1))), (4, .int (nI (worA ρ 0 0)))] → W p l e (xRmG 40 1500 170 1020) s m args below meth c H locs 150 900 Q (F0 m 745 ls [.int (nI ((mClose (mBid ρ (x / 8 % ρ 4))) 1)), .int (nI ((mClose (mBid ρ (x / 8 % ρ 4))) 1))]) := by
              intro H locs ls hw hl
              refine x_cne M (tgt := 811) (by omega) (by omega) dL_holds_745 (by decide) (fun c_62 => by exfalso; omega) (fun c_62 => ?_)
              refine lv_aload_n hx hb dL_holds_748 rfl (lv_at hl 12 rfl) ?_
              refine lv_iconst (v := (nI 4)) hx hb dL_holds_749 (by decide) ?_
              refine lv_iload hx hb dL_holds_750 (lv_at hl 6 rfl) ?_
              refine lv_iconst (v := (nI 0)) hx hb dL_holds_752 (by decide) ?_
              refine lv_iconst (v := (nI 0)) hx hb dL_holds_753 (by decide) ?_
              refine x_cSG (As := [.ref xo, .int (nI 4), .int (nI ((x / 8) % (ρ 4))), .int (nI 0), .int (nI 0)]) (oK_bidder l G Y xo h0 h1 hh hb2 sl a0 a1 sv tz az (mClose (mBid ρ ((x / 8) % (ρ 4)))) (nxt (nxt nx)) (min ((min (ct + 1) 14) + 1) 14) (setR (setR rr nx ρ) (nxt nx) (mBid ρ ((x / 8) % (ρ 4)))) κ0 κ1 fl tn lt γ59 (mBid ρ ((x / 8) % (ρ 4))) γ47 (setR (setR gg nx γ) (nxt nx) γ49) δ0 δ1 lf24 tk25 bt26 bw27 _ _ (hI2) (hbb2) (by decide) _) cw_L_192 [0, 1, 2, 3, 4, 5, 6, 7, 8, 9, 10] M hK hZ hN hw hl.1 rfl (by decide) ⟨by decide, by decide⟩ ⟨by show _ ≤ 170; omega, by show _ ≤ 1020; omega⟩ rfl rfl (Nat.le_of_ble_eq_true rfl) dL_holds_754 (fun r sg h_63 ha H locs hw => ?_)
              obtain ⟨rfl, rfl⟩ := h_63
              have hw : xW G A s.heap (oW Y xo h0 h1 hh hb2 sl a0 a1 sv tz az (mClose (mBid ρ ((x / 8) % (ρ 4)))) (nxt (nxt nx)) (min ((min (ct + 1) 14) + 1) 14) (setR (setR rr nx ρ) (nxt nx) (mBid ρ ((x / 8) % (ρ 4)))) κ0 κ1 fl tn lt γ59 (mBid ρ ((x / 8) % (ρ 4))) γ47 (setR (setR gg nx γ) (nxt nx) γ49) δ0 δ1 lf24 tk25 bt26 bw27) H locs := hw
              refine x_topN (n := (mClose (mBid ρ (x / 8 % ρ 4))) (14 + 21 * (x / 8 % ρ 4))) rfl ?_
              refine lv_iload hx hb dL_holds_757 (lv_at hl 1 rfl) ?_
              refine x_cgt M (tgt := 811) (by omega) (by omega) dL_holds_759 (by decide) (fun c_64 => by exfalso; omega) (fun c_64 => ?_)
              refine lv_aload_n hx hb dL_holds_762 rfl (lv_at hl 12 rfl) ?_
              refine lv_iconst (v := (nI 4)) hx hb dL_holds_763 (by decide) ?_
              refine lv_iload hx hb dL_holds_764 (lv_at hl 6 rfl) ?_
              refine lv_iconst (v := (nI 0)) hx hb dL_holds_766 (by decide) ?_
              refine lv_iconst (v := (nI 0)) hx hb dL_holds_767 (by decide) ?_
              refine x_cSG (As := [.ref xo, .int (nI 4), .int (nI ((x / 8) % (ρ 4))), .int (nI 0), .int (nI 0)]) (oK_bidder l G Y xo h0 h1 hh hb2 sl a0 a1 sv tz az (mClose (mBid ρ ((x / 8) % (ρ 4)))) (nxt (nxt nx)) (min ((min (ct + 1) 14) + 1) 14) (setR (setR rr nx ρ) (nxt nx) (mBid ρ ((x / 8) % (ρ 4)))) κ0 κ1 fl tn lt γ59 (mBid ρ ((x / 8) % (ρ 4))) γ47 (setR (setR gg nx γ) (nxt nx) γ49) δ0 δ1 lf24 tk25 bt26 bw27 _ _ (hI2) (hbb2) (by decide) _) cw_L_192 [0, 1, 2, 3, 4, 5, 6, 7, 8, 9, 10] M hK hZ hN hw hl.1 rfl (by decide) ⟨by decide, by decide⟩ ⟨by show _ ≤ 170; omega, by show _ ≤ 1020; omega⟩ rfl rfl (Nat.le_of_ble_eq_true rfl) dL_holds_768 (fun r sg h_65 ha H locs hw => ?_)
              obtain ⟨rfl, rfl⟩ := h_65
              have hw : xW G A s.heap (oW Y xo h0 h1 hh hb2 sl a0 a1 sv tz az (mClose (mBid ρ ((x / 8) % (ρ 4)))) (nxt (nxt nx)) (min ((min (ct + 1) 14) + 1) 14) (setR (setR rr nx ρ) (nxt nx) (mBid ρ ((x / 8) % (ρ 4)))) κ0 κ1 fl tn lt γ59 (mBid ρ ((x / 8) % (ρ 4))) γ47 (setR (setR gg nx γ) (nxt nx) γ49) δ0 δ1 lf24 tk25 bt26 bw27) H locs := hw
              refine x_topN (n := (mClose (mBid ρ (x / 8 % ρ 4))) (14 + 21 * (x / 8 % ρ 4))) rfl ?_
              refine lv_aload_n hx hb dL_holds_771 rfl (lv_at hl 12 rfl) ?_
              refine lv_iconst (v := (nI 4)) hx hb dL_holds_772 (by decide) ?_
              refine lv_iload hx hb dL_holds_773 (lv_at hl 6 rfl) ?_
              refine lv_iconst (v := (nI 2)) hx hb dL_holds_775 (by decide) ?_
              refine lv_iconst (v := (nI 0)) hx hb dL_holds_776 (by decide) ?_
              refine x_cSG (As := [.ref xo, .int (nI 4), .int (nI ((x / 8) % (ρ 4))), .int (nI 2), .int (nI 0)]) (oK_bidder l G Y xo h0 h1 hh hb2 sl a0 a1 sv tz az (mClose (mBid ρ ((x / 8) % (ρ 4)))) (nxt (nxt nx)) (min ((min (ct + 1) 14) + 1) 14) (setR (setR rr nx ρ) (nxt nx) (mBid ρ ((x / 8) % (ρ 4)))) κ0 κ1 fl tn lt γ59 (mBid ρ ((x / 8) % (ρ 4))) γ47 (setR (setR gg nx γ) (nxt nx) γ49) δ0 δ1 lf24 tk25 bt26 bw27 _ _ (hI2) (hbb2) (by decide) _) cw_L_192 [0, 1, 2, 3, 4, 5, 6, 7, 8, 9, 10] M hK hZ hN hw hl.1 rfl (by decide) ⟨by decide, by decide⟩ ⟨by show _ ≤ 170; omega, by show _ ≤ 1020; omega⟩ rfl rfl (Nat.le_of_ble_eq_true rfl) dL_holds_777 (fun r sg h_66 ha H locs hw => ?_)
              obtain ⟨rfl, rfl⟩ := h_66
              have hw : xW G A s.heap (oW Y xo h0 h1 hh hb2 sl a0 a1 sv tz az (mClose (mBid ρ ((x / 8) % (ρ 4)))) (nxt (nxt nx)) (min ((min (ct + 1) 14) + 1) 14) (setR (setR rr nx ρ) (nxt nx) (mBid ρ ((x / 8) % (ρ 4)))) κ0 κ1 fl tn lt γ59 (mBid ρ ((x / 8) % (ρ 4))) γ47 (setR (setR gg nx γ) (nxt nx) γ49) δ0 δ1 lf24 tk25 bt26 bw27) H locs := hw
              refine x_topN (n := act (mClose (mBid ρ (x / 8 % ρ 4))) (x / 8 % ρ 4)) rfl ?_
              refine x_clt M (tgt := 811) (by omega) (by omega) dL_holds_780 (by decide) (fun c_67 => by exfalso; omega) (fun c_67 => ?_)
              refine lv_aload_n hx hb dL_holds_783 rfl (lv_at hl 12 rfl) ?_
              refine lv_bipush (v := (nI 17)) hx hb dL_holds_784 (by decide) ?_
              refine lv_iconst (v := (nI 0)) hx hb dL_holds_786 (by decide) ?_
              refine lv_iconst (v := (nI 0)) hx hb dL_holds_787 (by decide) ?_
              refine lv_iconst (v := (nI 0)) hx hb dL_holds_788 (by decide) ?_
              obtain ⟨ht1, ht2, ht3, ht4, ht5⟩ := hO.twice (Nat.le_refl B) (Good_bid hO.good hbb)
              refine x_cSG (As := [.ref xo, .int (nI 17), .int (nI 0), .int (nI 0), .int (nI 0)]) (oK_undo l G Y xo h0 h1 hh hb2 sl a0 a1 sv tz az (mClose (mBid ρ ((x / 8) % (ρ 4)))) (nxt (nxt nx)) (min ((min (ct + 1) 14) + 1) 14) (setR (setR rr nx ρ) (nxt nx) (mBid ρ ((x / 8) % (ρ 4)))) κ0 κ1 fl tn lt γ59 (mBid ρ ((x / 8) % (ρ 4))) γ47 (setR (setR gg nx γ) (nxt nx) γ49) δ0 δ1 lf24 tk25 bt26 bw27 (nxt_lt hnx1) (by omega) (by omega) (by rw [ht1, ht3]; exact hI1) _ _ _) cw_L_192 [0, 1, 2, 3, 4, 5, 6, 7, 8, 9, 10] M hK hZ hN hw hl.1 rfl (by decide) ⟨by decide, by decide⟩ ⟨by show _ ≤ 170; omega, by show _ ≤ 1020; omega⟩ rfl rfl (Nat.le_of_ble_eq_true rfl) dL_holds_789 (fun r sg h_68 ha H locs hw => ?_)
              obtain ⟨rfl, rfl⟩ := h_68
              have hw : xW G A s.heap (oW Y xo h0 h1 hh hb2 sl a0 a1 sv tz az ((setR (setR rr nx ρ) (nxt nx) (mBid ρ ((x / 8) % (ρ 4)))) (prv (nxt (nxt nx)))) (prv (nxt (nxt nx))) ((min ((min (ct + 1) 14) + 1) 14) - 1) (setR (setR rr nx ρ) (nxt nx) (mBid ρ ((x / 8) % (ρ 4)))) κ0 κ1 fl tn lt ((setR (setR gg nx γ) (nxt nx) γ49) (prv (nxt (nxt nx)))) (mBid ρ ((x / 8) % (ρ 4))) γ47 (setR (setR gg nx γ) (nxt nx) γ49) δ0 δ1 lf24 tk25 bt26 bw27) H locs := hw
              rw [ht1, ht3] at hw
              have hw : xW G A s.heap (oW Y xo h0 h1 hh hb2 sl a0 a1 sv tz az (mBid ρ (x / 8 % ρ 4)) (nxt nx) (min (min (ct + 1) 14 + 1) 14 - 1) (setR (setR rr nx ρ) (nxt nx) (mBid ρ ((x / 8) % (ρ 4)))) κ0 κ1 fl tn lt ((setR (setR gg nx γ) (nxt nx) γ49) (nxt nx)) (mBid ρ ((x / 8) % (ρ 4))) γ47 (setR (setR gg nx γ) (nxt nx) γ49) δ0 δ1 lf24 tk25 bt26 bw27) H locs := hw
              refine x_topN (n := (min (min (ct + 1) 14 + 1) 14 - 1)) rfl ?_
              refine x_zlt M (tgt := 811) (by omega) dL_holds_792 (by decide) ?_
              refine lv_aload_n hx hb dL_holds_795 rfl (lv_at hl 12 rfl) ?_
              refine lv_bipush (v := (nI 17)) hx hb dL_holds_796 (by decide) ?_
              refine lv_iconst (v := (nI 0)) hx hb dL_holds_798 (by decide) ?_
              refine lv_iconst (v := (nI 0)) hx hb dL_holds_799 (by decide) ?_
              refine lv_iconst (v := (nI 0)) hx hb dL_holds_800 (by decide) ?_
              refine x_cSG (As := [.ref xo, .int (nI 17), .int (nI 0), .int (nI 0), .int (nI 0)]) (oK_undo l G Y xo h0 h1 hh hb2 sl a0 a1 sv tz az (mBid ρ (x / 8 % ρ 4)) (nxt nx) (min (min (ct + 1) 14 + 1) 14 - 1) (setR (setR rr nx ρ) (nxt nx) (mBid ρ ((x / 8) % (ρ 4)))) κ0 κ1 fl tn lt ((setR (setR gg nx γ) (nxt nx) γ49) (nxt nx)) (mBid ρ ((x / 8) % (ρ 4))) γ47 (setR (setR gg nx γ) (nxt nx) γ49) δ0 δ1 lf24 tk25 bt26 bw27 (hnx1) (by omega) (by omega) (by rw [ht2, ht4]; exact hI) _ _ _) cw_L_192 [0, 1, 2, 3, 4, 5, 6, 7, 8, 9, 10] M hK hZ hN hw hl.1 rfl (by decide) ⟨by decide, by decide⟩ ⟨by show _ ≤ 170; omega, by show _ ≤ 1020; omega⟩ rfl rfl (Nat.le_of_ble_eq_true rfl) dL_holds_801 (fun r sg h_69 ha H locs hw => ?_)
              obtain ⟨rfl, rfl⟩ := h_69
              have hw : xW G A s.heap (oW Y xo h0 h1 hh hb2 sl a0 a1 sv tz az ((setR (setR rr nx ρ) (nxt nx) (mBid ρ ((x / 8) % (ρ 4)))) (prv (nxt nx))) (prv (nxt nx)) ((min (min (ct + 1) 14 + 1) 14 - 1) - 1) (setR (setR rr nx ρ) (nxt nx) (mBid ρ ((x / 8) % (ρ 4)))) κ0 κ1 fl tn lt ((setR (setR gg nx γ) (nxt nx) γ49) (prv (nxt nx))) (mBid ρ ((x / 8) % (ρ 4))) γ47 (setR (setR gg nx γ) (nxt nx) γ49) δ0 δ1 lf24 tk25 bt26 bw27) H locs := hw
              rw [ht2, ht4] at hw
              have hw : xW G A s.heap (oW Y xo h0 h1 hh hb2 sl a0 a1 sv tz az ρ nx (min (min (ct + 1) 14 + 1) 14 - 1 - 1) (setR (setR rr nx ρ) (nxt nx) (mBid ρ ((x / 8) % (ρ 4)))) κ0 κ1 fl tn lt ((setR (setR gg nx γ) (nxt nx) γ49) nx) (mBid ρ ((x / 8) % (ρ 4))) γ47 (setR (setR gg nx γ) (nxt nx) γ49) δ0 δ1 lf24 tk25 bt26 bw27) H locs := hw
              refine x_topN (n := (min (min (ct + 1) 14 + 1) 14 - 1 - 1)) rfl ?_
              refine x_zlt M (tgt := 811) (by omega) dL_holds_804 (by decide) ?_
              refine lv_iconst (v := (nI 1)) hx hb dL_holds_807 (by decide) ?_
              refine lv_goto (tgt := 812) hx hb dL_holds_808 (by decide) ?_
              refine lv_istore (lv' := [(7, .int (nI 1)), (21, .int (nI (scarce (mBid ρ (x / 8 % ρ 4))))), (20, .int (nI ((mBid ρ (x / 8 % ρ 4)) (14 + 21 * (x / 8 % ρ 4))))), (19, .int (prof (mBid ρ (x / 8 % ρ 4)) (x / 8 % ρ 4))), (18, .int (nI ((mBid ρ (x / 8 % ρ 4)) (19 + 21 * (x / 8 % ρ 4) + (x % 3))))), (17, .int (prof ρ (x / 8 % ρ 4))), (16, .int (nI ((x / 8) % (ρ 4)))), (15, .int (nI 0)), (14, .int (nI (ρ (11 + (x % 3))))), (13, .int (nI ((endR ρ).1 (11 + (x % 3))))), (12, .int (nI (x % 3))), (11, .int (rlV ρ)), (0, .ref xo), (1, .int (nI x)), (2, .int (nI (ρ 4))), (3, .int (nI (ρ 1))), (4, .int (nI (worA ρ 0 0)))]) hx hb dL_holds_812 hl (by decide) rfl (fun ls hl => ?_)
              refine W_widen (k := 155) (n := 930) (by omega) (by omega) ?_
              exact L814 (min (min (ct + 1) 14 + 1) 14 - 1 - 1) (setR (setR rr nx ρ) (nxt nx) (mBid ρ ((x / 8) % (ρ 4)))) ((setR (setR gg nx γ) (nxt nx) γ49) nx) (mBid ρ ((x / 8) % (ρ 4))) γ47 (setR (setR gg nx γ) (nxt nx) γ49) δ0 δ1 lf24 tk25 bt26 bw27 _ _ _ ⟨(if_pos ⟨c_o, c_n⟩).symm, (if_pos ⟨c_o, c_n⟩).symm⟩ hw (lv_sub hl [7, 0, 8, 10, 12, 13, 14, 16] rfl)
            refine x_zne M (tgt := 744) (by omega) dL_holds_737 (by decide) (fun c_70 => ?_) (fun c_70 => ?_)
            · refine lv_iconst (v := (nI 0)) hx hb dL_holds_744 (by decide) ?_
              refine x_topN (n := (mClose (mBid ρ (x / 8 % ρ 4))) 1) (congrArg nI (by rw [close_1]; split <;> omega)) ?_
              refine W_widen (k := 150) (n := 900) (by omega) (by omega) ?_
              exact L745 _ _ _ hw (lv_sub hl [0, 1, 2, 3, 4, 5, 6, 7, 8, 9, 10, 11, 12, 13, 14, 15, 16] rfl)
            refine lv_iconst (v := (nI 1)) hx hb dL_holds_740 (by decide) ?_
            refine lv_goto (tgt := 745) hx hb dL_holds_741 (by decide) ?_
            refine x_topN (n := (mClose (mBid ρ (x / 8 % ρ 4))) 1) (congrArg nI (by rw [close_1]; split <;> omega)) ?_
            refine W_widen (k := 150) (n := 900) (by omega) (by omega) ?_
            exact L745 _ _ _ hw (lv_sub hl [0, 1, 2, 3, 4, 5, 6, 7, 8, 9, 10, 11, 12, 13, 14, 15, 16] rfl)
          refine lv_iload hx hb dL_holds_529 (lv_at hl 4 rfl) ?_
          refine x_zeq M (tgt := 576) (by decide) dL_holds_531 (by decide) (fun c_71 => by exfalso; exact absurd c_71 (by decide)) (fun c_71 => ?_)
          refine lv_iload hx hb dL_holds_534 (lv_at hl 1 rfl) ?_
          refine lv_iload hx hb dL_holds_536 (lv_at hl 0 rfl) ?_
          refine x_clt M (tgt := 576) (by omega) (by omega) dL_holds_538 (by decide) (fun c_72 => by exfalso; have := end_pri hI (show x % 3 < 3 by omega); omega) (fun c_72 => ?_)
          refine lv_iload_n hx hb dL_holds_541 rfl (lv_at hl 8 rfl) ?_
          refine x_zeq M (tgt := 560) (by omega) dL_holds_542 (by decide) (fun c_o => ?_) (fun c_o => ?_)
          · refine lv_iload hx hb dL_holds_560 (lv_at hl 3 rfl) ?_
            refine lv_iconst (v := (-1)) hx hb dL_holds_562 (by decide) ?_
            refine lv_icmp_eq (tgt := 572) hx hb dL_holds_563 (by decide) (fun c_e => ?_) (fun c_e => ?_)
            · refine W_widen (k := 141) (n := 846) (by omega) (by omega) ?_
              exact L572 _ _ _ hw (lv_sub hl [0, 1, 2, 3, 4, 5, 6, 7, 8, 9] rfl)
            have hrl := rl_not c_e
            refine lv_iload hx hb dL_holds_566 (lv_at hl 3 rfl) ?_
            refine x_topN (n := (endR ρ).2) hrl ?_
            refine lv_iconst (v := (nI 1)) hx hb dL_holds_568 (by decide) ?_
            refine x_clt M (tgt := 576) (by omega) (by decide) dL_holds_569 (by decide) (fun c_73 => by exfalso; have := end_pos hI c_o; omega) (fun c_73 => ?_)
            refine W_widen (k := 141) (n := 846) (by omega) (by omega) ?_
            exact L572 _ _ _ hw (lv_sub hl [0, 1, 2, 3, 4, 5, 6, 7, 8, 9] rfl)
          have hrl := rl_over (ρ := ρ) (by omega)
          have heo := end_over (ρ := ρ) (by omega)
          refine lv_iload hx hb dL_holds_545 (lv_at hl 3 rfl) ?_
          refine x_topN (n := 0) hrl ?_
          refine x_zne M (tgt := 576) (by decide) dL_holds_547 (by decide) (fun c_74 => by exfalso; exact absurd c_74 (by decide)) (fun c_74 => ?_)
          refine lv_iload hx hb dL_holds_550 (lv_at hl 1 rfl) ?_
          refine lv_iload hx hb dL_holds_552 (lv_at hl 0 rfl) ?_
          refine x_cne M (tgt := 576) (by omega) (by omega) dL_holds_554 (by decide) (fun c_75 => by exfalso; rw [heo] at c_75; exact c_75 rfl) (fun c_75 => ?_)
          refine lv_goto (tgt := 572) hx hb dL_holds_557 (by decide) ?_
          refine W_widen (k := 141) (n := 846) (by omega) (by omega) ?_
          exact L572 _ _ _ hw (lv_sub hl [0, 1, 2, 3, 4, 5, 6, 7, 8, 9] rfl)
        refine x_zne M (tgt := 484) (by omega) dL_holds_477 (by decide) (fun c_76 => ?_) (fun c_76 => ?_)
        · refine lv_iconst (v := (nI 0)) hx hb dL_holds_484 (by decide) ?_
          refine x_topN (n := nZ ρ) (congrArg nI (by unfold nZ; split <;> omega)) ?_
          refine W_widen (k := 139) (n := 834) (by omega) (by omega) ?_
          exact L485 _ _ _ hw (lv_sub hl [0, 1, 2, 3, 4, 5, 6, 7, 8, 9, 10] rfl)
        refine lv_iconst (v := (nI 1)) hx hb dL_holds_480 (by decide) ?_
        refine lv_goto (tgt := 485) hx hb dL_holds_481 (by decide) ?_
        refine x_topN (n := nZ ρ) (congrArg nI (by unfold nZ; split <;> omega)) ?_
        refine W_widen (k := 139) (n := 834) (by omega) (by omega) ?_
        exact L485 _ _ _ hw (lv_sub hl [0, 1, 2, 3, 4, 5, 6, 7, 8, 9, 10] rfl)
      refine lv_iconst (v := (-1)) hx hb dL_holds_467 (by decide) ?_
      refine lv_icmp_ne (tgt := 475) hx hb dL_holds_468 (by decide) (fun c_1 => ?_) (fun c_0 => ?_)
      · refine lv_iconst (v := (nI 0)) hx hb dL_holds_475 (by decide) ?_
        refine x_topN (n := nZ ρ) (congrArg nI (nZ_0 c_1)) ?_
        refine W_widen (k := 139) (n := 834) (by omega) (by omega) ?_
        exact L476 _ _ _ hw (lv_sub hl [0, 1, 2, 3, 4, 5, 6, 7, 8, 9, 10] rfl)
      refine lv_iconst (v := (nI 1)) hx hb dL_holds_471 (by decide) ?_
      refine lv_goto (tgt := 476) hx hb dL_holds_472 (by decide) ?_
      refine x_topN (n := nZ ρ) (congrArg nI (nZ_1 c_0 hI)) ?_
      refine W_widen (k := 139) (n := 834) (by omega) (by omega) ?_
      exact L476 _ _ _ hw (lv_sub hl [0, 1, 2, 3, 4, 5, 6, 7, 8, 9, 10] rfl)
    refine lv_iconst (v := (nI 0)) hx hb dL_holds_60 (by decide) ?_
    refine lv_istore (lv' := [(11, .int (nI 0)), (10, .int (nI 0)), (9, .int (nI 0)), (8, .int (nI 0)), (7, .int (nI 1)), (6, .int (nI 0)), (5, .int (nI 0)), (4, .int (nI (worA ρ 0 0))), (3, .int (nI (ρ 1))), (0, .ref xo), (1, .int (nI x)), (2, .int (nI (ρ 4)))]) hx hb dL_holds_61 hl (by decide) rfl (fun ls hl => ?_)
    have L63 : ∀ (fu b : Nat) (lf_0_63 : Nat → Nat) (tk_0_63 : Nat → Int32) (bt_0_63 : Nat → Int32) (bw_0_63 : Int32), ρ 4 < b + fu → b ≤ ρ 4 → ∀ (H : Heap) (locs : List Loc) (ls : Array Slot), xW G A s.heap (oW Y xo h0 h1 hh hb2 sl a0 a1 sv tz az ρ nx ct rr κ0 κ1 fl tn lt γ κ γ1 gg δ0 δ1 lf_0_63 tk_0_63 bt_0_63 bw_0_63) H locs → lv_has ls 22 [(0, .ref xo), (1, .int (nI x)), (2, .int (nI (ρ 4))), (3, .int (nI (ρ 1))), (4, .int (nI (worA ρ 0 0))), (5, .int (nI (hW ρ b))), (6, .int (nI (hC ρ b))), (7, .int (nI 1)), (8, .int (nI (hL ρ 0 b))), (9, .int (nI (hL ρ 1 b))), (10, .int (nI (hL ρ 2 b))), (11, .int (nI b))] → W p l e (xRmG 40 1500 170 1020) s m args below meth c H locs (2 + 22 * b) (12 + 132 * b) Q (F0 m 63 ls []) := by
      intro fu
      induction fu with
      | zero => intro b lf_0_63 tk_0_63 bt_0_63 bw_0_63 q1 q2; omega
      | succ fu ih63 =>
        intro b lf_0_63 tk_0_63 bt_0_63 bw_0_63 hq1_63 hq2_63 H locs ls hw hl
        refine lv_iload hx hb dL_holds_63 (lv_at hl 11 rfl) ?_
        refine lv_iload_n hx hb dL_holds_65 rfl (lv_at hl 2 rfl) ?_
        refine x_cge M (tgt := 385) (by omega) (by omega) dL_holds_66 (by decide) (fun c_b => ?_) (fun c_b => ?_)
        · obtain rfl : b = ρ 4 := by omega
          refine W_widen (k := 134) (n := 804) (by omega) (by omega) ?_
          exact L385 lf_0_63 tk_0_63 bt_0_63 bw_0_63 _ _ _ hw (lv_sub hl [0, 1, 2, 3, 4, 5, 6, 7, 8, 9, 10] rfl)
        refine lv_iload hx hb dL_holds_69 (lv_at hl 7 rfl) ?_
        refine x_zeq M (tgt := 385) (by decide) dL_holds_71 (by decide) (fun c_77 => by exfalso; exact absurd c_77 (by decide)) (fun c_77 => ?_)
        refine lv_iconst (v := (nI 0)) hx hb dL_holds_74 (by decide) ?_
        refine lv_istore (lv' := [(12, .int (nI 0)), (0, .ref xo), (1, .int (nI x)), (2, .int (nI (ρ 4))), (3, .int (nI (ρ 1))), (4, .int (nI (worA ρ 0 0))), (5, .int (nI (hW ρ b))), (6, .int (nI (hC ρ b))), (7, .int (nI 1)), (8, .int (nI (hL ρ 0 b))), (9, .int (nI (hL ρ 1 b))), (10, .int (nI (hL ρ 2 b))), (11, .int (nI b))]) hx hb dL_holds_75 hl (by decide) rfl (fun ls hl => ?_)
        refine lv_iconst (v := (nI 0)) hx hb dL_holds_77 (by decide) ?_
        refine lv_istore (lv' := [(13, .int (nI 0)), (12, .int (nI 0)), (0, .ref xo), (1, .int (nI x)), (2, .int (nI (ρ 4))), (3, .int (nI (ρ 1))), (4, .int (nI (worA ρ 0 0))), (5, .int (nI (hW ρ b))), (6, .int (nI (hC ρ b))), (7, .int (nI 1)), (8, .int (nI (hL ρ 0 b))), (9, .int (nI (hL ρ 1 b))), (10, .int (nI (hL ρ 2 b))), (11, .int (nI b))]) hx hb dL_holds_78 hl (by decide) rfl (fun ls hl => ?_)
        have L166 : ∀ (H : Heap) (locs : List Loc) (ls : Array Slot), xW G A s.heap (oW Y xo h0 h1 hh hb2 sl a0 a1 sv tz az ρ nx ct rr κ0 κ1 fl tn lt γ κ γ1 gg δ0 δ1 lf_0_63 tk_0_63 bt_0_63 bw_0_63) H locs → lv_has ls 22 [(0, .ref xo), (1, .int (nI x)), (2, .int (nI (ρ 4))), (3, .int (nI (ρ 1))), (4, .int (nI (worA ρ 0 0))), (5, .int (nI (hW ρ b))), (6, .int (nI (hC ρ b))), (7, .int (nI 1)), (8, .int (nI (hL ρ 0 b))), (9, .int (nI (hL ρ 1 b))), (10, .int (nI (hL ρ 2 b))), (11, .int (nI b)), (12, .int (nI (act ρ b)))] → W p l e (xRmG 40 1500 170 1020) s m args below meth c H locs (14 + 22 * b) (6 * (14 + 22 * b)) Q (F0 m 166 ls []) := by
          intro H locs ls hw hl
          refine lv_aload_n hx hb dL_holds_166 rfl (lv_at hl 0 rfl) ?_
          refine lv_bipush (v := (nI 18)) hx hb dL_holds_167 (by decide) ?_
          refine lv_iload hx hb dL_holds_169 (lv_at hl 11 rfl) ?_
          refine lv_iconst (v := (nI 0)) hx hb dL_holds_171 (by decide) ?_
          refine lv_iconst (v := (nI 0)) hx hb dL_holds_172 (by decide) ?_
          have hc5 := cho_5 (ρ := ρ) (b := b)
          have hcp := cho_ok hI c_b
          have hpk := hI.pck (q := 22 + 21 * b) c_b rfl
          refine x_cSG (As := [.ref xo, .int (nI 18), .int (nI b), .int (nI 0), .int (nI 0)]) (oK_gets l G Y xo h0 h1 hh hb2 sl a0 a1 sv tz az ρ nx ct rr κ0 κ1 fl tn lt γ κ γ1 gg δ0 δ1 lf_0_63 tk_0_63 bt_0_63 bw_0_63 _ (hI) (c_b) _ _) cw_L_192 [0, 1, 2, 3, 4, 5, 6, 7, 8, 9, 10] M hK hZ hN hw hl.1 rfl (by decide) ⟨by decide, by decide⟩ ⟨by show _ ≤ 170; omega, by show _ ≤ 1020; omega⟩ rfl rfl (Nat.le_of_ble_eq_true rfl) dL_holds_173 (fun r sg h_78 ha H locs hw => ?_)
          obtain ⟨rfl, lf79, tk80, bt81, bw82, rfl⟩ := h_78
          have hw : xW G A s.heap (oW Y xo h0 h1 hh hb2 sl a0 a1 sv tz az ρ nx ct rr κ0 κ1 fl tn lt γ κ γ1 gg δ0 δ1 lf79 tk80 bt81 bw82) H locs := hw
          refine lv_istore (lv' := [(13, .int (mw (choA ρ 0 0 b))), (0, .ref xo), (1, .int (nI x)), (2, .int (nI (ρ 4))), (3, .int (nI (ρ 1))), (4, .int (nI (worA ρ 0 0))), (5, .int (nI (hW ρ b))), (6, .int (nI (hC ρ b))), (7, .int (nI 1)), (8, .int (nI (hL ρ 0 b))), (9, .int (nI (hL ρ 1 b))), (10, .int (nI (hL ρ 2 b))), (11, .int (nI b)), (12, .int (nI (act ρ b)))]) hx hb dL_holds_176 hl (by decide) rfl (fun ls hl => ?_)
          refine lv_aload_n hx hb dL_holds_178 rfl (lv_at hl 1 rfl) ?_
          refine lv_bipush (v := (nI 19)) hx hb dL_holds_179 (by decide) ?_
          refine lv_iload hx hb dL_holds_181 (lv_at hl 12 rfl) ?_
          refine lv_iconst (v := (nI 0)) hx hb dL_holds_183 (by decide) ?_
          refine lv_iconst (v := (nI 0)) hx hb dL_holds_184 (by decide) ?_
          refine x_cSG (As := [.ref xo, .int (nI 19), .int (nI b), .int (nI 0), .int (nI 0)]) (oK_pays l G Y xo h0 h1 hh hb2 sl a0 a1 sv tz az ρ nx ct rr κ0 κ1 fl tn lt γ κ γ1 gg δ0 δ1 lf79 tk80 bt81 bw82 _ (hI) (c_b) _ _) cw_L_192 [0, 1, 2, 3, 4, 5, 6, 7, 8, 9, 10] M hK hZ hN hw hl.1 rfl (by decide) ⟨by decide, by decide⟩ ⟨by show _ ≤ 170; omega, by show _ ≤ 1020; omega⟩ rfl rfl (Nat.le_of_ble_eq_true rfl) dL_holds_185 (fun r sg h_83 ha H locs hw => ?_)
          obtain ⟨rfl, lf84, tk85, bt86, bw87, rfl⟩ := h_83
          have hw : xW G A s.heap (oW Y xo h0 h1 hh hb2 sl a0 a1 sv tz az ρ nx ct rr κ0 κ1 fl tn lt γ κ γ1 gg δ0 δ1 lf84 tk85 bt86 bw87) H locs := hw
          refine x_topN (n := payN ρ b) (pay_eq hI c_b) ?_
          have hpl := pay_le hI c_b
          have hwb := wOf_b hI c_b
          refine lv_istore (lv' := [(14, .int (nI (payN ρ b))), (13, .int (mw (choA ρ 0 0 b))), (0, .ref xo), (1, .int (nI x)), (2, .int (nI (ρ 4))), (3, .int (nI (ρ 1))), (4, .int (nI (worA ρ 0 0))), (5, .int (nI (hW ρ b))), (6, .int (nI (hC ρ b))), (7, .int (nI 1)), (8, .int (nI (hL ρ 0 b))), (9, .int (nI (hL ρ 1 b))), (10, .int (nI (hL ρ 2 b))), (11, .int (nI b)), (12, .int (nI (act ρ b)))]) hx hb dL_holds_188 hl (by decide) rfl (fun ls hl => ?_)
          have L211 : ∀ (H : Heap) (locs : List Loc) (ls : Array Slot), xW G A s.heap (oW Y xo h0 h1 hh hb2 sl a0 a1 sv tz az ρ nx ct rr κ0 κ1 fl tn lt γ κ γ1 gg δ0 δ1 lf84 tk85 bt86 bw87) H locs → lv_has ls 22 [(14, .int (nI (payN ρ b))), (13, .int (mw (choA ρ 0 0 b))), (0, .ref xo), (1, .int (nI x)), (2, .int (nI (ρ 4))), (3, .int (nI (ρ 1))), (4, .int (nI (worA ρ 0 0))), (5, .int (nI (hW ρ b))), (6, .int (nI (hC ρ b))), (7, .int (nI 1)), (8, .int (nI (hL ρ 0 b))), (9, .int (nI (hL ρ 1 b))), (10, .int (nI (hL ρ 2 b))), (11, .int (nI b)), (12, .int (nI (act ρ b)))] → W p l e (xRmG 40 1500 170 1020) s m args below meth c H locs (17 + 22 * b) (6 * (17 + 22 * b)) Q (F0 m 211 ls [.int (nI (wOf ρ b (choA ρ 0 0 b)))]) := by
            intro H locs ls hw hl
            refine lv_istore (lv' := [(15, .int (nI (wOf ρ b (choA ρ 0 0 b)))), (14, .int (nI (payN ρ b))), (13, .int (mw (choA ρ 0 0 b))), (0, .ref xo), (1, .int (nI x)), (2, .int (nI (ρ 4))), (3, .int (nI (ρ 1))), (4, .int (nI (worA ρ 0 0))), (5, .int (nI (hW ρ b))), (6, .int (nI (hC ρ b))), (7, .int (nI 1)), (8, .int (nI (hL ρ 0 b))), (9, .int (nI (hL ρ 1 b))), (10, .int (nI (hL ρ 2 b))), (11, .int (nI b)), (12, .int (nI (act ρ b)))]) hx hb dL_holds_211 hl (by decide) rfl (fun ls hl => ?_)
            refine lv_iload hx hb dL_holds_213 (lv_at hl 8 rfl) ?_
            refine lv_iload hx hb dL_holds_215 (lv_at hl 0 rfl) ?_
            refine x_iadd M (n := hW ρ b + wOf ρ b (choA ρ 0 0 b)) dL_holds_217 rfl ?_
            refine x_topN (n := hW ρ (1 + b)) (congrArg nI hW_1.symm) ?_
            refine lv_istore (lv' := [(5, .int (nI (hW ρ (1 + b)))), (15, .int (nI (wOf ρ b (choA ρ 0 0 b)))), (14, .int (nI (payN ρ b))), (13, .int (mw (choA ρ 0 0 b))), (0, .ref xo), (1, .int (nI x)), (2, .int (nI (ρ 4))), (3, .int (nI (ρ 1))), (4, .int (nI (worA ρ 0 0))), (6, .int (nI (hC ρ b))), (7, .int (nI 1)), (8, .int (nI (hL ρ 0 b))), (9, .int (nI (hL ρ 1 b))), (10, .int (nI (hL ρ 2 b))), (11, .int (nI b)), (12, .int (nI (act ρ b)))]) hx hb dL_holds_218 hl (by decide) rfl (fun ls hl => ?_)
            refine lv_iload hx hb dL_holds_220 (lv_at hl 11 rfl) ?_
            have L243 : ∀ (H : Heap) (locs : List Loc) (ls : Array Slot), xW G A s.heap (oW Y xo h0 h1 hh hb2 sl a0 a1 sv tz az ρ nx ct rr κ0 κ1 fl tn lt γ κ γ1 gg δ0 δ1 lf84 tk85 bt86 bw87) H locs → lv_has ls 22 [(5, .int (nI (hW ρ (1 + b)))), (15, .int (nI (wOf ρ b (choA ρ 0 0 b)))), (14, .int (nI (payN ρ b))), (13, .int (mw (choA ρ 0 0 b))), (0, .ref xo), (1, .int (nI x)), (2, .int (nI (ρ 4))), (3, .int (nI (ρ 1))), (4, .int (nI (worA ρ 0 0))), (6, .int (nI (hC ρ b))), (7, .int (nI 1)), (8, .int (nI (hL ρ 0 b))), (9, .int (nI (hL ρ 1 b))), (10, .int (nI (hL ρ 2 b))), (11, .int (nI b)), (12, .int (nI (act ρ b)))] → W p l e (xRmG 40 1500 170 1020) s m args below meth c H locs (18 + 22 * b) (6 * (18 + 22 * b)) Q (F0 m 243 ls [.int (nI (lOf ρ b (choA ρ 0 0 b) 0)), .int (nI (hL ρ 0 b))]) := by
              intro H locs ls hw hl
              refine x_iadd M (n := hL ρ 0 b + lOf ρ b (choA ρ 0 0 b) 0) dL_holds_243 rfl ?_
              refine x_topN (n := hL ρ 0 (1 + b)) (congrArg nI hL_1.symm) ?_
              refine lv_istore (lv' := [(8, .int (nI (hL ρ 0 (1 + b)))), (5, .int (nI (hW ρ (1 + b)))), (15, .int (nI (wOf ρ b (choA ρ 0 0 b)))), (14, .int (nI (payN ρ b))), (13, .int (mw (choA ρ 0 0 b))), (0, .ref xo), (1, .int (nI x)), (2, .int (nI (ρ 4))), (3, .int (nI (ρ 1))), (4, .int (nI (worA ρ 0 0))), (6, .int (nI (hC ρ b))), (7, .int (nI 1)), (9, .int (nI (hL ρ 1 b))), (10, .int (nI (hL ρ 2 b))), (11, .int (nI b)), (12, .int (nI (act ρ b)))]) hx hb dL_holds_244 hl (by decide) rfl (fun ls hl => ?_)
              refine lv_iload hx hb dL_holds_246 (lv_at hl 12 rfl) ?_
              have L269 : ∀ (H : Heap) (locs : List Loc) (ls : Array Slot), xW G A s.heap (oW Y xo h0 h1 hh hb2 sl a0 a1 sv tz az ρ nx ct rr κ0 κ1 fl tn lt γ κ γ1 gg δ0 δ1 lf84 tk85 bt86 bw87) H locs → lv_has ls 22 [(8, .int (nI (hL ρ 0 (1 + b)))), (5, .int (nI (hW ρ (1 + b)))), (15, .int (nI (wOf ρ b (choA ρ 0 0 b)))), (14, .int (nI (payN ρ b))), (13, .int (mw (choA ρ 0 0 b))), (0, .ref xo), (1, .int (nI x)), (2, .int (nI (ρ 4))), (3, .int (nI (ρ 1))), (4, .int (nI (worA ρ 0 0))), (6, .int (nI (hC ρ b))), (7, .int (nI 1)), (9, .int (nI (hL ρ 1 b))), (10, .int (nI (hL ρ 2 b))), (11, .int (nI b)), (12, .int (nI (act ρ b)))] → W p l e (xRmG 40 1500 170 1020) s m args below meth c H locs (19 + 22 * b) (6 * (19 + 22 * b)) Q (F0 m 269 ls [.int (nI (lOf ρ b (choA ρ 0 0 b) 1)), .int (nI (hL ρ 1 b))]) := by
                intro H locs ls hw hl
                refine x_iadd M (n := hL ρ 1 b + lOf ρ b (choA ρ 0 0 b) 1) dL_holds_269 rfl ?_
                refine x_topN (n := hL ρ 1 (1 + b)) (congrArg nI hL_1.symm) ?_
                refine lv_istore (lv' := [(9, .int (nI (hL ρ 1 (1 + b)))), (8, .int (nI (hL ρ 0 (1 + b)))), (5, .int (nI (hW ρ (1 + b)))), (15, .int (nI (wOf ρ b (choA ρ 0 0 b)))), (14, .int (nI (payN ρ b))), (13, .int (mw (choA ρ 0 0 b))), (0, .ref xo), (1, .int (nI x)), (2, .int (nI (ρ 4))), (3, .int (nI (ρ 1))), (4, .int (nI (worA ρ 0 0))), (6, .int (nI (hC ρ b))), (7, .int (nI 1)), (10, .int (nI (hL ρ 2 b))), (11, .int (nI b)), (12, .int (nI (act ρ b)))]) hx hb dL_holds_270 hl (by decide) rfl (fun ls hl => ?_)
                refine lv_iload hx hb dL_holds_272 (lv_at hl 13 rfl) ?_
                have L295 : ∀ (H : Heap) (locs : List Loc) (ls : Array Slot), xW G A s.heap (oW Y xo h0 h1 hh hb2 sl a0 a1 sv tz az ρ nx ct rr κ0 κ1 fl tn lt γ κ γ1 gg δ0 δ1 lf84 tk85 bt86 bw87) H locs → lv_has ls 22 [(9, .int (nI (hL ρ 1 (1 + b)))), (8, .int (nI (hL ρ 0 (1 + b)))), (5, .int (nI (hW ρ (1 + b)))), (15, .int (nI (wOf ρ b (choA ρ 0 0 b)))), (14, .int (nI (payN ρ b))), (13, .int (mw (choA ρ 0 0 b))), (0, .ref xo), (1, .int (nI x)), (2, .int (nI (ρ 4))), (3, .int (nI (ρ 1))), (4, .int (nI (worA ρ 0 0))), (6, .int (nI (hC ρ b))), (7, .int (nI 1)), (10, .int (nI (hL ρ 2 b))), (11, .int (nI b)), (12, .int (nI (act ρ b)))] → W p l e (xRmG 40 1500 170 1020) s m args below meth c H locs (20 + 22 * b) (6 * (20 + 22 * b)) Q (F0 m 295 ls [.int (nI (lOf ρ b (choA ρ 0 0 b) 2)), .int (nI (hL ρ 2 b))]) := by
                  intro H locs ls hw hl
                  refine x_iadd M (n := hL ρ 2 b + lOf ρ b (choA ρ 0 0 b) 2) dL_holds_295 rfl ?_
                  refine x_topN (n := hL ρ 2 (1 + b)) (congrArg nI hL_1.symm) ?_
                  refine lv_istore (lv' := [(10, .int (nI (hL ρ 2 (1 + b)))), (9, .int (nI (hL ρ 1 (1 + b)))), (8, .int (nI (hL ρ 0 (1 + b)))), (5, .int (nI (hW ρ (1 + b)))), (15, .int (nI (wOf ρ b (choA ρ 0 0 b)))), (14, .int (nI (payN ρ b))), (13, .int (mw (choA ρ 0 0 b))), (0, .ref xo), (1, .int (nI x)), (2, .int (nI (ρ 4))), (3, .int (nI (ρ 1))), (4, .int (nI (worA ρ 0 0))), (6, .int (nI (hC ρ b))), (7, .int (nI 1)), (11, .int (nI b)), (12, .int (nI (act ρ b)))]) hx hb dL_holds_296 hl (by decide) rfl (fun ls hl => ?_)
                  refine lv_iload hx hb dL_holds_298 (lv_at hl 12 rfl) ?_
                  refine lv_aload_n hx hb dL_holds_300 rfl (lv_at hl 7 rfl) ?_
                  refine lv_bipush (v := (nI 6)) hx hb dL_holds_301 (by decide) ?_
                  refine lv_iload hx hb dL_holds_303 (lv_at hl 14 rfl) ?_
                  refine lv_iconst (v := (nI 0)) hx hb dL_holds_305 (by decide) ?_
                  refine lv_iconst (v := (nI 3)) hx hb dL_holds_306 (by decide) ?_
                  refine x_cSG (As := [.ref xo, .int (nI 6), .int (nI b), .int (nI 0), .int (nI 3)]) (oK_pack l G Y xo h0 h1 hh hb2 sl a0 a1 sv tz az ρ nx ct rr κ0 κ1 fl tn lt γ κ γ1 gg δ0 δ1 lf84 tk85 bt86 bw87 _ _ _ (hI) (c_b) (Nat.zero_le _) (by decide)) cw_L_192 [0, 1, 2, 3, 4, 5, 6, 7, 8, 9, 10] M hK hZ hN hw hl.1 rfl (by decide) ⟨by decide, by decide⟩ ⟨by show _ ≤ 170; omega, by show _ ≤ 1020; omega⟩ rfl rfl (Nat.le_of_ble_eq_true rfl) dL_holds_307 (fun r sg h_88 ha H locs hw => ?_)
                  obtain ⟨rfl, rfl⟩ := h_88
                  have hw : xW G A s.heap (oW Y xo h0 h1 hh hb2 sl a0 a1 sv tz az ρ nx ct rr κ0 κ1 fl tn lt γ κ γ1 gg δ0 δ1 lf84 tk85 bt86 bw87) H locs := hw
                  refine x_topN (n := worOf ρ b 0) rfl ?_
                  refine x_iadd M (n := hC ρ b + worOf ρ b 0) dL_holds_310 rfl ?_
                  refine x_topN (n := hC ρ (1 + b)) (congrArg nI hC_1.symm) ?_
                  refine lv_istore (lv' := [(6, .int (nI (hC ρ (1 + b)))), (10, .int (nI (hL ρ 2 (1 + b)))), (9, .int (nI (hL ρ 1 (1 + b)))), (8, .int (nI (hL ρ 0 (1 + b)))), (5, .int (nI (hW ρ (1 + b)))), (15, .int (nI (wOf ρ b (choA ρ 0 0 b)))), (14, .int (nI (payN ρ b))), (13, .int (mw (choA ρ 0 0 b))), (0, .ref xo), (1, .int (nI x)), (2, .int (nI (ρ 4))), (3, .int (nI (ρ 1))), (4, .int (nI (worA ρ 0 0))), (7, .int (nI 1)), (11, .int (nI b)), (12, .int (nI (act ρ b)))]) hx hb dL_holds_311 hl (by decide) rfl (fun ls hl => ?_)
                  refine lv_iload hx hb dL_holds_313 (lv_at hl 13 rfl) ?_
                  refine x_zeq M (tgt := 376) (by decide) dL_holds_315 (by decide) (fun c_89 => by exfalso; exact absurd c_89 (by decide)) (fun c_89 => ?_)
                  refine lv_iload hx hb dL_holds_318 (lv_at hl 15 rfl) ?_
                  refine lv_aload_n hx hb dL_holds_320 rfl (lv_at hl 8 rfl) ?_
                  refine lv_iconst (v := (nI 4)) hx hb dL_holds_321 (by decide) ?_
                  refine lv_iload hx hb dL_holds_322 (lv_at hl 14 rfl) ?_
                  refine lv_iconst (v := (nI 2)) hx hb dL_holds_324 (by decide) ?_
                  refine lv_iconst (v := (nI 0)) hx hb dL_holds_325 (by decide) ?_
                  refine x_cSG (As := [.ref xo, .int (nI 4), .int (nI b), .int (nI 2), .int (nI 0)]) (oK_bidder l G Y xo h0 h1 hh hb2 sl a0 a1 sv tz az ρ nx ct rr κ0 κ1 fl tn lt γ κ γ1 gg δ0 δ1 lf84 tk85 bt86 bw87 _ _ (hI) (c_b) (by decide) _) cw_L_192 [0, 1, 2, 3, 4, 5, 6, 7, 8, 9, 10] M hK hZ hN hw hl.1 rfl (by decide) ⟨by decide, by decide⟩ ⟨by show _ ≤ 170; omega, by show _ ≤ 1020; omega⟩ rfl rfl (Nat.le_of_ble_eq_true rfl) dL_holds_326 (fun r sg h_90 ha H locs hw => ?_)
                  obtain ⟨rfl, rfl⟩ := h_90
                  have hw : xW G A s.heap (oW Y xo h0 h1 hh hb2 sl a0 a1 sv tz az ρ nx ct rr κ0 κ1 fl tn lt γ κ γ1 gg δ0 δ1 lf84 tk85 bt86 bw87) H locs := hw
                  refine x_topN (n := act ρ b) rfl ?_
                  have ha9 := act_le hI c_b
                  have hr9 := hI.rgt (q := 14 + 21 * b) c_b rfl
                  have ha8 := hA.2 b c_b
                  refine x_cne M (tgt := 376) (by omega) (by omega) dL_holds_329 (by decide) (fun c_91 => by exfalso; omega) (fun c_91 => ?_)
                  refine lv_iload hx hb dL_holds_332 (lv_at hl 15 rfl) ?_
                  refine lv_aload_n hx hb dL_holds_334 rfl (lv_at hl 8 rfl) ?_
                  refine lv_iconst (v := (nI 4)) hx hb dL_holds_335 (by decide) ?_
                  refine lv_iload hx hb dL_holds_336 (lv_at hl 14 rfl) ?_
                  refine lv_iconst (v := (nI 0)) hx hb dL_holds_338 (by decide) ?_
                  refine lv_iconst (v := (nI 0)) hx hb dL_holds_339 (by decide) ?_
                  refine x_cSG (As := [.ref xo, .int (nI 4), .int (nI b), .int (nI 0), .int (nI 0)]) (oK_bidder l G Y xo h0 h1 hh hb2 sl a0 a1 sv tz az ρ nx ct rr κ0 κ1 fl tn lt γ κ γ1 gg δ0 δ1 lf84 tk85 bt86 bw87 _ _ (hI) (c_b) (by decide) _) cw_L_192 [0, 1, 2, 3, 4, 5, 6, 7, 8, 9, 10] M hK hZ hN hw hl.1 rfl (by decide) ⟨by decide, by decide⟩ ⟨by show _ ≤ 170; omega, by show _ ≤ 1020; omega⟩ rfl rfl (Nat.le_of_ble_eq_true rfl) dL_holds_340 (fun r sg h_92 ha H locs hw => ?_)
                  obtain ⟨rfl, rfl⟩ := h_92
                  have hw : xW G A s.heap (oW Y xo h0 h1 hh hb2 sl a0 a1 sv tz az ρ nx ct rr κ0 κ1 fl tn lt γ κ γ1 gg δ0 δ1 lf84 tk85 bt86 bw87) H locs := hw
                  refine x_topN (n := ρ (14 + 21 * b)) rfl ?_
                  refine x_cgt M (tgt := 376) (by omega) (by omega) dL_holds_343 (by decide) (fun c_93 => by exfalso; omega) (fun c_93 => ?_)
                  refine lv_iload hx hb dL_holds_346 (lv_at hl 7 rfl) ?_
                  refine lv_aload_n hx hb dL_holds_348 rfl (lv_at hl 8 rfl) ?_
                  refine lv_iconst (v := (nI 4)) hx hb dL_holds_349 (by decide) ?_
                  refine lv_iload hx hb dL_holds_350 (lv_at hl 14 rfl) ?_
                  refine lv_iconst (v := (nI 3)) hx hb dL_holds_352 (by decide) ?_
                  refine lv_iconst (v := (nI 0)) hx hb dL_holds_353 (by decide) ?_
                  refine x_cSG (As := [.ref xo, .int (nI 4), .int (nI b), .int (nI 3), .int (nI 0)]) (oK_bidder l G Y xo h0 h1 hh hb2 sl a0 a1 sv tz az ρ nx ct rr κ0 κ1 fl tn lt γ κ γ1 gg δ0 δ1 lf84 tk85 bt86 bw87 _ _ (hI) (c_b) (by decide) _) cw_L_192 [0, 1, 2, 3, 4, 5, 6, 7, 8, 9, 10] M hK hZ hN hw hl.1 rfl (by decide) ⟨by decide, by decide⟩ ⟨by show _ ≤ 170; omega, by show _ ≤ 1020; omega⟩ rfl rfl (Nat.le_of_ble_eq_true rfl) dL_holds_354 (fun r sg h_94 ha H locs hw => ?_)
                  obtain ⟨rfl, rfl⟩ := h_94
                  have hw : xW G A s.heap (oW Y xo h0 h1 hh hb2 sl a0 a1 sv tz az ρ nx ct rr κ0 κ1 fl tn lt γ κ γ1 gg δ0 δ1 lf84 tk85 bt86 bw87) H locs := hw
                  refine x_topN (n := ρ (22 + 21 * b)) rfl ?_
                  refine lv_icmp_gt (tgt := 376) hx hb dL_holds_357 (by decide) (fun c_95 => by exfalso; exact absurd c_95 (gets_ok hc5 hpk hcp)) (fun c_95 => ?_)
                  refine lv_iload hx hb dL_holds_360 (lv_at hl 6 rfl) ?_
                  refine x_zlt M (tgt := 376) (by omega) dL_holds_362 (by decide) ?_
                  refine lv_iload hx hb dL_holds_365 (lv_at hl 6 rfl) ?_
                  refine lv_iload hx hb dL_holds_367 (lv_at hl 5 rfl) ?_
                  refine x_cgt M (tgt := 376) (by omega) (by omega) dL_holds_369 (by decide) (fun c_96 => by exfalso; omega) (fun c_96 => ?_)
                  refine lv_iconst (v := (nI 1)) hx hb dL_holds_372 (by decide) ?_
                  refine lv_goto (tgt := 377) hx hb dL_holds_373 (by decide) ?_
                  refine lv_istore (lv' := [(7, .int (nI 1)), (6, .int (nI (hC ρ (1 + b)))), (10, .int (nI (hL ρ 2 (1 + b)))), (9, .int (nI (hL ρ 1 (1 + b)))), (8, .int (nI (hL ρ 0 (1 + b)))), (5, .int (nI (hW ρ (1 + b)))), (15, .int (nI (wOf ρ b (choA ρ 0 0 b)))), (14, .int (nI (payN ρ b))), (13, .int (mw (choA ρ 0 0 b))), (0, .ref xo), (1, .int (nI x)), (2, .int (nI (ρ 4))), (3, .int (nI (ρ 1))), (4, .int (nI (worA ρ 0 0))), (11, .int (nI b)), (12, .int (nI (act ρ b)))]) hx hb dL_holds_377 hl (by decide) rfl (fun ls hl => ?_)
                  refine lv_iinc (v := (nI (1 + b))) (lv' := [(11, .int (nI (1 + b))), (7, .int (nI 1)), (6, .int (nI (hC ρ (1 + b)))), (10, .int (nI (hL ρ 2 (1 + b)))), (9, .int (nI (hL ρ 1 (1 + b)))), (8, .int (nI (hL ρ 0 (1 + b)))), (5, .int (nI (hW ρ (1 + b)))), (15, .int (nI (wOf ρ b (choA ρ 0 0 b)))), (14, .int (nI (payN ρ b))), (13, .int (mw (choA ρ 0 0 b))), (0, .ref xo), (1, .int (nI x)), (2, .int (nI (ρ 4))), (3, .int (nI (ρ 1))), (4, .int (nI (worA ρ 0 0))), (12, .int (nI (act ρ b)))]) hx hb dL_holds_379 hl (k := 14) rfl (by rw [show (1 : Int) = ((1 : Nat) : Int) from rfl, nI_inc]; exact congrArg nI (by omega)) (by decide) rfl (fun ls hl => ?_)
                  refine lv_goto (tgt := 63) hx hb dL_holds_382 (by decide) ?_
                  refine W_widen (k := 2 + 22 * (1 + b)) (n := 12 + 132 * (1 + b)) (by omega) (by omega) ?_
                  exact ih63 (1 + b) lf84 tk85 bt86 bw87 (by omega) (by omega) _ _ _ hw (lv_sub hl [10, 11, 12, 13, 14, 6, 2, 1, 5, 4, 3, 0] rfl)
                refine lv_iload hx hb dL_holds_274 (lv_at hl 5 rfl) ?_
                refine lv_iconst (v := (-1)) hx hb dL_holds_276 (by decide) ?_
                refine lv_icmp_ne (tgt := 284) hx hb dL_holds_277 (by decide) (fun c_1 => ?_) (fun c_0 => ?_)
                · have hc : 0 < choA ρ 0 0 b := Nat.pos_of_ne_zero (fun z => c_1 (by rw [z]; exact mwN_0))
                  refine lv_aload_n hx hb dL_holds_284 rfl (lv_at hl 6 rfl) ?_
                  refine lv_bipush (v := (nI 6)) hx hb dL_holds_285 (by decide) ?_
                  refine lv_iload hx hb dL_holds_287 (lv_at hl 14 rfl) ?_
                  refine lv_iload hx hb dL_holds_289 (lv_at hl 5 rfl) ?_
                  refine x_topN (n := choA ρ 0 0 b - 1) (mw_p hc) ?_
                  refine lv_iconst (v := (nI 2)) hx hb dL_holds_291 (by decide) ?_
                  refine x_cSG (As := [.ref xo, .int (nI 6), .int (nI b), .int (nI (choA ρ 0 0 b - 1)), .int (nI 2)]) (oK_pack l G Y xo h0 h1 hh hb2 sl a0 a1 sv tz az ρ nx ct rr κ0 κ1 fl tn lt γ κ γ1 gg δ0 δ1 lf84 tk85 bt86 bw87 _ _ _ (hI) (c_b) (by omega) (by decide)) cw_L_192 [0, 1, 2, 3, 4, 5, 6, 7, 8, 9, 10] M hK hZ hN hw hl.1 rfl (by decide) ⟨by decide, by decide⟩ ⟨by show _ ≤ 170; omega, by show _ ≤ 1020; omega⟩ rfl rfl (Nat.le_of_ble_eq_true rfl) dL_holds_292 (fun r sg h_97 ha H locs hw => ?_)
                  obtain ⟨rfl, rfl⟩ := h_97
                  have hw : xW G A s.heap (oW Y xo h0 h1 hh hb2 sl a0 a1 sv tz az ρ nx ct rr κ0 κ1 fl tn lt γ κ γ1 gg δ0 δ1 lf84 tk85 bt86 bw87) H locs := hw
                  refine x_topN (n := lOf ρ b (choA ρ 0 0 b) 2) (congrArg nI (show pckV ρ b (choA ρ 0 0 b - 1) 2 = _ from lOf_p hc)) ?_
                  refine W_widen (k := (20 + 22 * b)) (n := (6 * (20 + 22 * b))) (by omega) (by omega) ?_
                  exact L295 _ _ _ hw (lv_sub hl [0, 1, 2, 3, 4, 5, 6, 7, 8, 9, 10, 11, 12, 13, 14, 15] rfl)
                have hc : choA ρ 0 0 b = 0 := (errP_m1 (by omega)).mp c_0
                refine lv_iconst (v := (nI 0)) hx hb dL_holds_280 (by decide) ?_
                refine lv_goto (tgt := 295) hx hb dL_holds_281 (by decide) ?_
                refine x_topN (n := lOf ρ b (choA ρ 0 0 b) 2) (congrArg nI (lOf_z hc)) ?_
                refine W_widen (k := (20 + 22 * b)) (n := (6 * (20 + 22 * b))) (by omega) (by omega) ?_
                exact L295 _ _ _ hw (lv_sub hl [0, 1, 2, 3, 4, 5, 6, 7, 8, 9, 10, 11, 12, 13, 14, 15] rfl)
              refine lv_iload hx hb dL_holds_248 (lv_at hl 4 rfl) ?_
              refine lv_iconst (v := (-1)) hx hb dL_holds_250 (by decide) ?_
              refine lv_icmp_ne (tgt := 258) hx hb dL_holds_251 (by decide) (fun c_1 => ?_) (fun c_0 => ?_)
              · have hc : 0 < choA ρ 0 0 b := Nat.pos_of_ne_zero (fun z => c_1 (by rw [z]; exact mwN_0))
                refine lv_aload_n hx hb dL_holds_258 rfl (lv_at hl 5 rfl) ?_
                refine lv_bipush (v := (nI 6)) hx hb dL_holds_259 (by decide) ?_
                refine lv_iload hx hb dL_holds_261 (lv_at hl 14 rfl) ?_
                refine lv_iload hx hb dL_holds_263 (lv_at hl 4 rfl) ?_
                refine x_topN (n := choA ρ 0 0 b - 1) (mw_p hc) ?_
                refine lv_iconst (v := (nI 1)) hx hb dL_holds_265 (by decide) ?_
                refine x_cSG (As := [.ref xo, .int (nI 6), .int (nI b), .int (nI (choA ρ 0 0 b - 1)), .int (nI 1)]) (oK_pack l G Y xo h0 h1 hh hb2 sl a0 a1 sv tz az ρ nx ct rr κ0 κ1 fl tn lt γ κ γ1 gg δ0 δ1 lf84 tk85 bt86 bw87 _ _ _ (hI) (c_b) (by omega) (by decide)) cw_L_192 [0, 1, 2, 3, 4, 5, 6, 7, 8, 9, 10] M hK hZ hN hw hl.1 rfl (by decide) ⟨by decide, by decide⟩ ⟨by show _ ≤ 170; omega, by show _ ≤ 1020; omega⟩ rfl rfl (Nat.le_of_ble_eq_true rfl) dL_holds_266 (fun r sg h_98 ha H locs hw => ?_)
                obtain ⟨rfl, rfl⟩ := h_98
                have hw : xW G A s.heap (oW Y xo h0 h1 hh hb2 sl a0 a1 sv tz az ρ nx ct rr κ0 κ1 fl tn lt γ κ γ1 gg δ0 δ1 lf84 tk85 bt86 bw87) H locs := hw
                refine x_topN (n := lOf ρ b (choA ρ 0 0 b) 1) (congrArg nI (show pckV ρ b (choA ρ 0 0 b - 1) 1 = _ from lOf_p hc)) ?_
                refine W_widen (k := (19 + 22 * b)) (n := (6 * (19 + 22 * b))) (by omega) (by omega) ?_
                exact L269 _ _ _ hw (lv_sub hl [0, 1, 2, 3, 4, 5, 6, 7, 8, 9, 10, 11, 12, 13, 14, 15] rfl)
              have hc : choA ρ 0 0 b = 0 := (errP_m1 (by omega)).mp c_0
              refine lv_iconst (v := (nI 0)) hx hb dL_holds_254 (by decide) ?_
              refine lv_goto (tgt := 269) hx hb dL_holds_255 (by decide) ?_
              refine x_topN (n := lOf ρ b (choA ρ 0 0 b) 1) (congrArg nI (lOf_z hc)) ?_
              refine W_widen (k := (19 + 22 * b)) (n := (6 * (19 + 22 * b))) (by omega) (by omega) ?_
              exact L269 _ _ _ hw (lv_sub hl [0, 1, 2, 3, 4, 5, 6, 7, 8, 9, 10, 11, 12, 13, 14, 15] rfl)
            refine lv_iload hx hb dL_holds_222 (lv_at hl 3 rfl) ?_
            refine lv_iconst (v := (-1)) hx hb dL_holds_224 (by decide) ?_
            refine lv_icmp_ne (tgt := 232) hx hb dL_holds_225 (by decide) (fun c_1 => ?_) (fun c_0 => ?_)
            · have hc : 0 < choA ρ 0 0 b := Nat.pos_of_ne_zero (fun z => c_1 (by rw [z]; exact mwN_0))
              refine lv_aload_n hx hb dL_holds_232 rfl (lv_at hl 4 rfl) ?_
              refine lv_bipush (v := (nI 6)) hx hb dL_holds_233 (by decide) ?_
              refine lv_iload hx hb dL_holds_235 (lv_at hl 14 rfl) ?_
              refine lv_iload hx hb dL_holds_237 (lv_at hl 3 rfl) ?_
              refine x_topN (n := choA ρ 0 0 b - 1) (mw_p hc) ?_
              refine lv_iconst (v := (nI 0)) hx hb dL_holds_239 (by decide) ?_
              refine x_cSG (As := [.ref xo, .int (nI 6), .int (nI b), .int (nI (choA ρ 0 0 b - 1)), .int (nI 0)]) (oK_pack l G Y xo h0 h1 hh hb2 sl a0 a1 sv tz az ρ nx ct rr κ0 κ1 fl tn lt γ κ γ1 gg δ0 δ1 lf84 tk85 bt86 bw87 _ _ _ (hI) (c_b) (by omega) (by decide)) cw_L_192 [0, 1, 2, 3, 4, 5, 6, 7, 8, 9, 10] M hK hZ hN hw hl.1 rfl (by decide) ⟨by decide, by decide⟩ ⟨by show _ ≤ 170; omega, by show _ ≤ 1020; omega⟩ rfl rfl (Nat.le_of_ble_eq_true rfl) dL_holds_240 (fun r sg h_99 ha H locs hw => ?_)
              obtain ⟨rfl, rfl⟩ := h_99
              have hw : xW G A s.heap (oW Y xo h0 h1 hh hb2 sl a0 a1 sv tz az ρ nx ct rr κ0 κ1 fl tn lt γ κ γ1 gg δ0 δ1 lf84 tk85 bt86 bw87) H locs := hw
              refine x_topN (n := lOf ρ b (choA ρ 0 0 b) 0) (congrArg nI (show pckV ρ b (choA ρ 0 0 b - 1) 0 = _ from lOf_p hc)) ?_
              refine W_widen (k := (18 + 22 * b)) (n := (6 * (18 + 22 * b))) (by omega) (by omega) ?_
              exact L243 _ _ _ hw (lv_sub hl [0, 1, 2, 3, 4, 5, 6, 7, 8, 9, 10, 11, 12, 13, 14, 15] rfl)
            have hc : choA ρ 0 0 b = 0 := (errP_m1 (by omega)).mp c_0
            refine lv_iconst (v := (nI 0)) hx hb dL_holds_228 (by decide) ?_
            refine lv_goto (tgt := 243) hx hb dL_holds_229 (by decide) ?_
            refine x_topN (n := lOf ρ b (choA ρ 0 0 b) 0) (congrArg nI (lOf_z hc)) ?_
            refine W_widen (k := (18 + 22 * b)) (n := (6 * (18 + 22 * b))) (by omega) (by omega) ?_
            exact L243 _ _ _ hw (lv_sub hl [0, 1, 2, 3, 4, 5, 6, 7, 8, 9, 10, 11, 12, 13, 14, 15] rfl)
          refine lv_iload hx hb dL_holds_190 (lv_at hl 1 rfl) ?_
          refine lv_iconst (v := (-1)) hx hb dL_holds_192 (by decide) ?_
          refine lv_icmp_ne (tgt := 200) hx hb dL_holds_193 (by decide) (fun c_1 => ?_) (fun c_0 => ?_)
          · have hc : 0 < choA ρ 0 0 b := Nat.pos_of_ne_zero (fun z => c_1 (by rw [z]; exact mwN_0))
            refine lv_aload_n hx hb dL_holds_200 rfl (lv_at hl 2 rfl) ?_
            refine lv_bipush (v := (nI 6)) hx hb dL_holds_201 (by decide) ?_
            refine lv_iload hx hb dL_holds_203 (lv_at hl 13 rfl) ?_
            refine lv_iload hx hb dL_holds_205 (lv_at hl 1 rfl) ?_
            refine x_topN (n := choA ρ 0 0 b - 1) (mw_p hc) ?_
            refine lv_iconst (v := (nI 3)) hx hb dL_holds_207 (by decide) ?_
            refine x_cSG (As := [.ref xo, .int (nI 6), .int (nI b), .int (nI (choA ρ 0 0 b - 1)), .int (nI 3)]) (oK_pack l G Y xo h0 h1 hh hb2 sl a0 a1 sv tz az ρ nx ct rr κ0 κ1 fl tn lt γ κ γ1 gg δ0 δ1 lf84 tk85 bt86 bw87 _ _ _ (hI) (c_b) (by omega) (by decide)) cw_L_192 [0, 1, 2, 3, 4, 5, 6, 7, 8, 9, 10] M hK hZ hN hw hl.1 rfl (by decide) ⟨by decide, by decide⟩ ⟨by show _ ≤ 170; omega, by show _ ≤ 1020; omega⟩ rfl rfl (Nat.le_of_ble_eq_true rfl) dL_holds_208 (fun r sg h_100 ha H locs hw => ?_)
            obtain ⟨rfl, rfl⟩ := h_100
            have hw : xW G A s.heap (oW Y xo h0 h1 hh hb2 sl a0 a1 sv tz az ρ nx ct rr κ0 κ1 fl tn lt γ κ γ1 gg δ0 δ1 lf84 tk85 bt86 bw87) H locs := hw
            refine x_topN (n := wOf ρ b (choA ρ 0 0 b)) (congrArg nI (show pckV ρ b (choA ρ 0 0 b - 1) 3 = _ from wOf_p hc)) ?_
            refine W_widen (k := (17 + 22 * b)) (n := (6 * (17 + 22 * b))) (by omega) (by omega) ?_
            exact L211 _ _ _ hw (lv_sub hl [0, 1, 2, 3, 4, 5, 6, 7, 8, 9, 10, 11, 12, 13, 14] rfl)
          have hc : choA ρ 0 0 b = 0 := (errP_m1 (by omega)).mp c_0
          refine lv_iconst (v := (nI 0)) hx hb dL_holds_196 (by decide) ?_
          refine lv_goto (tgt := 211) hx hb dL_holds_197 (by decide) ?_
          refine x_topN (n := wOf ρ b (choA ρ 0 0 b)) (congrArg nI (wOf_z hc)) ?_
          refine W_widen (k := (17 + 22 * b)) (n := (6 * (17 + 22 * b))) (by omega) (by omega) ?_
          exact L211 _ _ _ hw (lv_sub hl [0, 1, 2, 3, 4, 5, 6, 7, 8, 9, 10, 11, 12, 13, 14] rfl)
        have L80 : ∀ (fu k : Nat), 3 < k + fu → k ≤ 3 → ∀ (H : Heap) (locs : List Loc) (ls : Array Slot), xW G A s.heap (oW Y xo h0 h1 hh hb2 sl a0 a1 sv tz az ρ nx ct rr κ0 κ1 fl tn lt γ κ γ1 gg δ0 δ1 lf_0_63 tk_0_63 bt_0_63 bw_0_63) H locs → lv_has ls 22 [(0, .ref xo), (1, .int (nI x)), (2, .int (nI (ρ 4))), (3, .int (nI (ρ 1))), (4, .int (nI (worA ρ 0 0))), (5, .int (nI (hW ρ b))), (6, .int (nI (hC ρ b))), (7, .int (nI 1)), (8, .int (nI (hL ρ 0 b))), (9, .int (nI (hL ρ 1 b))), (10, .int (nI (hL ρ 2 b))), (11, .int (nI b)), (12, .int (nI (aP ρ b k))), (13, .int (nI k))] → W p l e (xRmG 40 1500 170 1020) s m args below meth c H locs (2 + 22 * b + 4 * k) (12 + 132 * b + 24 * k) Q (F0 m 80 ls []) := by
          intro fu
          induction fu with
          | zero => intro k q1 q2; omega
          | succ fu ih80 =>
            intro k hq1_80 hq2_80 H locs ls hw hl
            refine lv_iload hx hb dL_holds_80 (lv_at hl 13 rfl) ?_
            refine lv_iconst (v := (nI 3)) hx hb dL_holds_82 (by decide) ?_
            refine x_cge M (tgt := 166) (by omega) (by decide) dL_holds_83 (by decide) (fun c_k => ?_) (fun c_k => ?_)
            · obtain rfl : k = 3 := by omega
              rw [aP_3] at hl
              refine W_widen (k := (14 + 22 * b)) (n := (6 * (14 + 22 * b))) (by omega) (by omega) ?_
              exact L166 _ _ _ hw (lv_sub hl [0, 1, 2, 3, 4, 5, 6, 7, 8, 9, 10, 11, 12] rfl)
            refine lv_iload hx hb dL_holds_86 (lv_at hl 7 rfl) ?_
            refine x_zeq M (tgt := 166) (by decide) dL_holds_88 (by decide) (fun c_101 => by exfalso; exact absurd c_101 (by decide)) (fun c_101 => ?_)
            refine lv_aload_n hx hb dL_holds_91 rfl (lv_at hl 0 rfl) ?_
            refine lv_iconst (v := (nI 5)) hx hb dL_holds_92 (by decide) ?_
            refine lv_iload hx hb dL_holds_93 (lv_at hl 11 rfl) ?_
            refine lv_iload hx hb dL_holds_95 (lv_at hl 13 rfl) ?_
            refine lv_iconst (v := (nI 0)) hx hb dL_holds_97 (by decide) ?_
            refine x_cSG (As := [.ref xo, .int (nI 5), .int (nI b), .int (nI k), .int (nI 0)]) (oK_demand l G Y xo h0 h1 hh hb2 sl a0 a1 sv tz az ρ nx ct rr κ0 κ1 fl tn lt γ κ γ1 gg δ0 δ1 lf_0_63 tk_0_63 bt_0_63 bw_0_63 _ _ (hI) (c_b) (c_k) _) cw_L_192 [0, 1, 2, 3, 4, 5, 6, 7, 8, 9, 10] M hK hZ hN hw hl.1 rfl (by decide) ⟨by decide, by decide⟩ ⟨by show _ ≤ 170; omega, by show _ ≤ 1020; omega⟩ rfl rfl (Nat.le_of_ble_eq_true rfl) dL_holds_98 (fun r sg h_102 ha H locs hw => ?_)
            obtain ⟨rfl, rfl⟩ := h_102
            have hw : xW G A s.heap (oW Y xo h0 h1 hh hb2 sl a0 a1 sv tz az ρ nx ct rr κ0 κ1 fl tn lt γ κ γ1 gg δ0 δ1 lf_0_63 tk_0_63 bt_0_63 bw_0_63) H locs := hw
            refine x_topN (n := ρ (19 + 21 * b + k)) rfl ?_
            have hd9 := hI.dem (q := 19 + 21 * b + k) c_b c_k rfl
            have hd1 := hA.1 b c_b k c_k
            have hd2 : most ρ b k ≤ ρ (15 + 21 * b) := Nat.min_le_left _ _
            have hd3 : most ρ b k ≤ ρ (5 + k) := Nat.min_le_right _ _
            have hd4 := hI.cap (q := 15 + 21 * b) c_b rfl
            have hd5 := hI.sup (q := 5 + k) c_k rfl
            refine lv_istore (lv' := [(14, .int (nI (ρ (19 + 21 * b + k)))), (0, .ref xo), (1, .int (nI x)), (2, .int (nI (ρ 4))), (3, .int (nI (ρ 1))), (4, .int (nI (worA ρ 0 0))), (5, .int (nI (hW ρ b))), (6, .int (nI (hC ρ b))), (7, .int (nI 1)), (8, .int (nI (hL ρ 0 b))), (9, .int (nI (hL ρ 1 b))), (10, .int (nI (hL ρ 2 b))), (11, .int (nI b)), (12, .int (nI (aP ρ b k))), (13, .int (nI k))]) hx hb dL_holds_101 hl (by decide) rfl (fun ls hl => ?_)
            refine lv_iload hx hb dL_holds_103 (lv_at hl 13 rfl) ?_
            refine lv_iload hx hb dL_holds_105 (lv_at hl 0 rfl) ?_
            refine lv_aload_n hx hb dL_holds_107 rfl (lv_at hl 1 rfl) ?_
            refine lv_iconst (v := (nI 3)) hx hb dL_holds_108 (by decide) ?_
            refine lv_iload hx hb dL_holds_109 (lv_at hl 14 rfl) ?_
            refine lv_iconst (v := (nI 1)) hx hb dL_holds_111 (by decide) ?_
            refine lv_iconst (v := (nI 0)) hx hb dL_holds_112 (by decide) ?_
            refine x_cSG (As := [.ref xo, .int (nI 3), .int (nI k), .int (nI 1), .int (nI 0)]) (oK_kind l G Y xo h0 h1 hh hb2 sl a0 a1 sv tz az ρ nx ct rr κ0 κ1 fl tn lt γ κ γ1 gg δ0 δ1 lf_0_63 tk_0_63 bt_0_63 bw_0_63 _ _ (hI) (c_k) (by decide) _) cw_L_192 [0, 1, 2, 3, 4, 5, 6, 7, 8, 9, 10] M hK hZ hN hw hl.1 rfl (by decide) ⟨by decide, by decide⟩ ⟨by show _ ≤ 170; omega, by show _ ≤ 1020; omega⟩ rfl rfl (Nat.le_of_ble_eq_true rfl) dL_holds_113 (fun r sg h_103 ha H locs hw => ?_)
            obtain ⟨rfl, rfl⟩ := h_103
            have hw : xW G A s.heap (oW Y xo h0 h1 hh hb2 sl a0 a1 sv tz az ρ nx ct rr κ0 κ1 fl tn lt γ κ γ1 gg δ0 δ1 lf_0_63 tk_0_63 bt_0_63 bw_0_63) H locs := hw
            refine x_topN (n := ρ (8 + k)) rfl ?_
            refine x_imul M (n := (ρ (19 + 21 * b + k)) * (ρ (8 + k))) dL_holds_116 rfl ?_
            refine x_iadd M (n := aP ρ b k + ((ρ (19 + 21 * b + k)) * (ρ (8 + k)))) dL_holds_117 rfl ?_
            refine x_topN (n := aP ρ b (1 + k)) (congrArg nI aP_1.symm) ?_
            refine lv_istore (lv' := [(12, .int (nI (aP ρ b (1 + k)))), (14, .int (nI (ρ (19 + 21 * b + k)))), (0, .ref xo), (1, .int (nI x)), (2, .int (nI (ρ 4))), (3, .int (nI (ρ 1))), (4, .int (nI (worA ρ 0 0))), (5, .int (nI (hW ρ b))), (6, .int (nI (hC ρ b))), (7, .int (nI 1)), (8, .int (nI (hL ρ 0 b))), (9, .int (nI (hL ρ 1 b))), (10, .int (nI (hL ρ 2 b))), (11, .int (nI b)), (13, .int (nI k))]) hx hb dL_holds_118 hl (by decide) rfl (fun ls hl => ?_)
            refine lv_iload hx hb dL_holds_120 (lv_at hl 1 rfl) ?_
            refine x_zlt M (tgt := 157) (by omega) dL_holds_122 (by decide) ?_
            refine lv_iload hx hb dL_holds_125 (lv_at hl 1 rfl) ?_
            refine lv_aload_n hx hb dL_holds_127 rfl (lv_at hl 2 rfl) ?_
            refine lv_iconst (v := (nI 4)) hx hb dL_holds_128 (by decide) ?_
            refine lv_iload hx hb dL_holds_129 (lv_at hl 13 rfl) ?_
            refine lv_iconst (v := (nI 1)) hx hb dL_holds_131 (by decide) ?_
            refine lv_iconst (v := (nI 0)) hx hb dL_holds_132 (by decide) ?_
            refine x_cSG (As := [.ref xo, .int (nI 4), .int (nI b), .int (nI 1), .int (nI 0)]) (oK_bidder l G Y xo h0 h1 hh hb2 sl a0 a1 sv tz az ρ nx ct rr κ0 κ1 fl tn lt γ κ γ1 gg δ0 δ1 lf_0_63 tk_0_63 bt_0_63 bw_0_63 _ _ (hI) (c_b) (by decide) _) cw_L_192 [0, 1, 2, 3, 4, 5, 6, 7, 8, 9, 10] M hK hZ hN hw hl.1 rfl (by decide) ⟨by decide, by decide⟩ ⟨by show _ ≤ 170; omega, by show _ ≤ 1020; omega⟩ rfl rfl (Nat.le_of_ble_eq_true rfl) dL_holds_133 (fun r sg h_104 ha H locs hw => ?_)
            obtain ⟨rfl, rfl⟩ := h_104
            have hw : xW G A s.heap (oW Y xo h0 h1 hh hb2 sl a0 a1 sv tz az ρ nx ct rr κ0 κ1 fl tn lt γ κ γ1 gg δ0 δ1 lf_0_63 tk_0_63 bt_0_63 bw_0_63) H locs := hw
            refine x_topN (n := ρ (15 + 21 * b)) rfl ?_
            refine x_cgt M (tgt := 157) (by omega) (by omega) dL_holds_136 (by decide) (fun c_105 => by exfalso; omega) (fun c_105 => ?_)
            refine lv_iload hx hb dL_holds_139 (lv_at hl 1 rfl) ?_
            refine lv_aload_n hx hb dL_holds_141 rfl (lv_at hl 2 rfl) ?_
            refine lv_iconst (v := (nI 3)) hx hb dL_holds_142 (by decide) ?_
            refine lv_iload hx hb dL_holds_143 (lv_at hl 14 rfl) ?_
            refine lv_iconst (v := (nI 0)) hx hb dL_holds_145 (by decide) ?_
            refine lv_iconst (v := (nI 0)) hx hb dL_holds_146 (by decide) ?_
            refine x_cSG (As := [.ref xo, .int (nI 3), .int (nI k), .int (nI 0), .int (nI 0)]) (oK_kind l G Y xo h0 h1 hh hb2 sl a0 a1 sv tz az ρ nx ct rr κ0 κ1 fl tn lt γ κ γ1 gg δ0 δ1 lf_0_63 tk_0_63 bt_0_63 bw_0_63 _ _ (hI) (c_k) (by decide) _) cw_L_192 [0, 1, 2, 3, 4, 5, 6, 7, 8, 9, 10] M hK hZ hN hw hl.1 rfl (by decide) ⟨by decide, by decide⟩ ⟨by show _ ≤ 170; omega, by show _ ≤ 1020; omega⟩ rfl rfl (Nat.le_of_ble_eq_true rfl) dL_holds_147 (fun r sg h_106 ha H locs hw => ?_)
            obtain ⟨rfl, rfl⟩ := h_106
            have hw : xW G A s.heap (oW Y xo h0 h1 hh hb2 sl a0 a1 sv tz az ρ nx ct rr κ0 κ1 fl tn lt γ κ γ1 gg δ0 δ1 lf_0_63 tk_0_63 bt_0_63 bw_0_63) H locs := hw
            refine x_topN (n := ρ (5 + k)) rfl ?_
            refine x_cgt M (tgt := 157) (by omega) (by omega) dL_holds_150 (by decide) (fun c_107 => by exfalso; omega) (fun c_107 => ?_)
            refine lv_iconst (v := (nI 1)) hx hb dL_holds_153 (by decide) ?_
            refine lv_goto (tgt := 158) hx hb dL_holds_154 (by decide) ?_
            refine lv_istore (lv' := [(7, .int (nI 1)), (12, .int (nI (aP ρ b (1 + k)))), (14, .int (nI (ρ (19 + 21 * b + k)))), (0, .ref xo), (1, .int (nI x)), (2, .int (nI (ρ 4))), (3, .int (nI (ρ 1))), (4, .int (nI (worA ρ 0 0))), (5, .int (nI (hW ρ b))), (6, .int (nI (hC ρ b))), (8, .int (nI (hL ρ 0 b))), (9, .int (nI (hL ρ 1 b))), (10, .int (nI (hL ρ 2 b))), (11, .int (nI b)), (13, .int (nI k))]) hx hb dL_holds_158 hl (by decide) rfl (fun ls hl => ?_)
            refine lv_iinc (v := (nI (1 + k))) (lv' := [(13, .int (nI (1 + k))), (7, .int (nI 1)), (12, .int (nI (aP ρ b (1 + k)))), (14, .int (nI (ρ (19 + 21 * b + k)))), (0, .ref xo), (1, .int (nI x)), (2, .int (nI (ρ 4))), (3, .int (nI (ρ 1))), (4, .int (nI (worA ρ 0 0))), (5, .int (nI (hW ρ b))), (6, .int (nI (hC ρ b))), (8, .int (nI (hL ρ 0 b))), (9, .int (nI (hL ρ 1 b))), (10, .int (nI (hL ρ 2 b))), (11, .int (nI b))]) hx hb dL_holds_160 hl (k := 14) rfl (by rw [show (1 : Int) = ((1 : Nat) : Int) from rfl, nI_inc]; exact congrArg nI (by omega)) (by decide) rfl (fun ls hl => ?_)
            refine lv_goto (tgt := 80) hx hb dL_holds_163 (by decide) ?_
            refine W_widen (k := 2 + 22 * b + 4 * (1 + k)) (n := 12 + 132 * b + 24 * (1 + k)) (by omega) (by omega) ?_
            exact ih80 (1 + k) (by omega) (by omega) _ _ _ hw (lv_sub hl [4, 5, 6, 7, 8, 9, 10, 1, 11, 12, 13, 14, 2, 0] rfl)
        have hl : lv_has ls 22 [(13, .int (nI 0)), (12, .int (nI (aP ρ b 0))), (0, .ref xo), (1, .int (nI x)), (2, .int (nI (ρ 4))), (3, .int (nI (ρ 1))), (4, .int (nI (worA ρ 0 0))), (5, .int (nI (hW ρ b))), (6, .int (nI (hC ρ b))), (7, .int (nI 1)), (8, .int (nI (hL ρ 0 b))), (9, .int (nI (hL ρ 1 b))), (10, .int (nI (hL ρ 2 b))), (11, .int (nI b))] := hl
        refine W_widen (k := 2 + 22 * b + 4 * 0) (n := 12 + 132 * b + 24 * 0) (by omega) (by omega) ?_
        exact L80 (3 + 1) 0 (by omega) (by omega) _ _ _ hw (lv_sub hl [2, 3, 4, 5, 6, 7, 8, 9, 10, 11, 12, 13, 1, 0] rfl)
    have hl : lv_has ls 22 [(11, .int (nI 0)), (10, .int (nI (hL ρ 2 0))), (9, .int (nI (hL ρ 1 0))), (8, .int (nI (hL ρ 0 0))), (7, .int (nI 1)), (6, .int (nI (hC ρ 0))), (5, .int (nI (hW ρ 0))), (4, .int (nI (worA ρ 0 0))), (3, .int (nI (ρ 1))), (0, .ref xo), (1, .int (nI x)), (2, .int (nI (ρ 4)))] := hl
    refine W_widen (k := 2 + 22 * 0) (n := 12 + 132 * 0) (by omega) (by omega) ?_
    exact L63 (ρ 4 + 1) 0 lf4 tk5 bt6 bw7 (by omega) (by omega) _ _ _ hw (lv_sub hl [9, 10, 11, 8, 7, 6, 5, 4, 3, 2, 1, 0] rfl)
  refine lv_iconst (v := (nI 1)) hx hb dL_holds_17 (by decide) ?_
  refine x_cne M (tgt := 25) (by omega) (by decide) dL_holds_18 (by decide) (fun c_108 => ?_) (fun c_108 => ?_)
  · refine lv_iconst (v := (nI 0)) hx hb dL_holds_25 (by decide) ?_
    refine x_topN (n := ρ 1) (congrArg nI (by omega)) ?_
    refine W_widen (k := 2) (n := 12) (by omega) (by omega) ?_
    exact L26 _ _ _ hw (lv_sub hl [1, 2, 0] rfl)
  refine lv_iconst (v := (nI 1)) hx hb dL_holds_21 (by decide) ?_
  refine lv_goto (tgt := 26) hx hb dL_holds_22 (by decide) ?_
  refine x_topN (n := ρ 1) (congrArg nI (by omega)) ?_
  refine W_widen (k := 2) (n := 12) (by omega) (by omega) ?_
  exact L26 _ _ _ hw (lv_sub hl [1, 2, 0] rfl)
