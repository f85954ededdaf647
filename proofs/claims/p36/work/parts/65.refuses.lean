set_option maxHeartbeats 8000000 in
set_option maxRecDepth 20000 in
theorem c_L_refuses (l : Launch) (hfl : l.stackTraces = false) (G : va_G) (Y : Nat → Nat) (xo h0 h1 hh hb2 sl a0 a1 sv tz az : Nat) (ρ : Nat → Nat) (nx : Nat) (ct : Nat) (rr : Nat → Nat → Nat) (κ0 : Nat → Nat) (κ1 : Nat → Nat) (fl : Nat → Int32) (tn : Nat) (lt : Nat → Nat) (γ : Nat → Nat → Nat) (κ : Nat → Nat) (γ1 : Nat → Nat → Nat) (gg : Nat → Nat → Nat → Nat) (δ0 : Nat → Nat → Nat) (δ1 : Nat → Nat → Nat) (lf : Nat → Nat) (tk : Nat → Int32) (bt : Nat → Int32) (bw : Int32) (B x : Nat) (hO : OK B ρ nx ct rr κ0 κ1 fl tn lt) (hB : B < 2 ^ 30) (hxx : x < 2 ^ 31) : CtG l yL_refuses cL_refuses 8 .boolean 40 1500 70 420 [.ref xo, .int (nI x)] (oW Y xo h0 h1 hh hb2 sl a0 a1 sv tz az ρ nx ct rr κ0 κ1 fl tn lt γ κ γ1 gg δ0 δ1 lf tk bt bw) (fun r sg => r = 1 ∧ sg = oW Y xo h0 h1 hh hb2 sl a0 a1 sv tz az ρ nx ct rr κ0 κ1 fl tn lt γ κ γ1 gg δ0 δ1 lf tk bt bw) G Y := by
  refine x_ofG (by decide) (Nat.le_of_ble_eq_true rfl) (fun p e s m args below meth c A ls Q M hK hZ hN hw hl hret => ?_)
  obtain ⟨hx, hb, -⟩ := id M
  have hl : lv_has ls 8 [(0, .ref xo), (1, .int (nI x))] := hl
  have hI := hO.inv
  have h6 := hI.n6
  have h1v := hI.over
  have hr0 := hO.good.2.2
  refine lv_aload_n hx hb dL_refuses_0 rfl (lv_at hl 0 rfl) ?_
  refine lv_iconst (v := (nI 2)) hx hb dL_refuses_1 (by decide) ?_
  refine lv_iconst (v := (nI 0)) hx hb dL_refuses_2 (by decide) ?_
  refine lv_iconst (v := (nI 0)) hx hb dL_refuses_3 (by decide) ?_
  refine lv_iconst (v := (nI 0)) hx hb dL_refuses_4 (by decide) ?_
  refine x_cSG (As := [.ref xo, .int (nI 2), .int (nI 0), .int (nI 0), .int (nI 0)]) (oK_about l G Y xo h0 h1 hh hb2 sl a0 a1 sv tz az ρ nx ct rr κ0 κ1 fl tn lt γ κ γ1 gg δ0 δ1 lf tk bt bw _ (hI) (by decide) _ _) cw_L_192 [0, 1, 2, 3, 4, 5, 6, 7, 8, 9, 10] M hK hZ hN hw hl.1 rfl (by decide) ⟨by decide, by decide⟩ ⟨by show _ ≤ 70; omega, by show _ ≤ 420; omega⟩ rfl rfl (Nat.le_of_ble_eq_true rfl) dL_refuses_5 (fun r sg h_1 ha H locs hw => ?_)
  obtain ⟨rfl, rfl⟩ := h_1
  have hw : xW G A s.heap (oW Y xo h0 h1 hh hb2 sl a0 a1 sv tz az ρ nx ct rr κ0 κ1 fl tn lt γ κ γ1 gg δ0 δ1 lf tk bt bw) H locs := hw
  refine x_topN (n := ρ 4) rfl ?_
  refine lv_istore_n (lv' := [(2, .int (nI (ρ 4))), (0, .ref xo), (1, .int (nI x))]) hx hb dL_refuses_8 rfl hl (by decide) rfl (fun ls hl => ?_)
  refine lv_aload_n hx hb dL_refuses_9 rfl (lv_at hl 1 rfl) ?_
  refine lv_iconst (v := (nI 2)) hx hb dL_refuses_10 (by decide) ?_
  refine lv_iconst (v := (nI 1)) hx hb dL_refuses_11 (by decide) ?_
  refine lv_iconst (v := (nI 0)) hx hb dL_refuses_12 (by decide) ?_
  refine lv_iconst (v := (nI 0)) hx hb dL_refuses_13 (by decide) ?_
  refine x_cSG (As := [.ref xo, .int (nI 2), .int (nI 1), .int (nI 0), .int (nI 0)]) (oK_about l G Y xo h0 h1 hh hb2 sl a0 a1 sv tz az ρ nx ct rr κ0 κ1 fl tn lt γ κ γ1 gg δ0 δ1 lf tk bt bw _ (hI) (by decide) _ _) cw_L_192 [0, 1, 2, 3, 4, 5, 6, 7, 8, 9, 10] M hK hZ hN hw hl.1 rfl (by decide) ⟨by decide, by decide⟩ ⟨by show _ ≤ 70; omega, by show _ ≤ 420; omega⟩ rfl rfl (Nat.le_of_ble_eq_true rfl) dL_refuses_14 (fun r sg h_2 ha H locs hw => ?_)
  obtain ⟨rfl, rfl⟩ := h_2
  have hw : xW G A s.heap (oW Y xo h0 h1 hh hb2 sl a0 a1 sv tz az ρ nx ct rr κ0 κ1 fl tn lt γ κ γ1 gg δ0 δ1 lf tk bt bw) H locs := hw
  refine x_topN (n := ρ 0) rfl ?_
  refine lv_istore_n (lv' := [(3, .int (nI (ρ 0))), (2, .int (nI (ρ 4))), (0, .ref xo), (1, .int (nI x))]) hx hb dL_refuses_17 rfl hl (by decide) rfl (fun ls hl => ?_)
  refine lv_aload_n hx hb dL_refuses_18 rfl (lv_at hl 2 rfl) ?_
  refine lv_iconst (v := (nI 2)) hx hb dL_refuses_19 (by decide) ?_
  refine lv_iconst (v := (nI 2)) hx hb dL_refuses_20 (by decide) ?_
  refine lv_iconst (v := (nI 0)) hx hb dL_refuses_21 (by decide) ?_
  refine lv_iconst (v := (nI 0)) hx hb dL_refuses_22 (by decide) ?_
  refine x_cSG (As := [.ref xo, .int (nI 2), .int (nI 2), .int (nI 0), .int (nI 0)]) (oK_about l G Y xo h0 h1 hh hb2 sl a0 a1 sv tz az ρ nx ct rr κ0 κ1 fl tn lt γ κ γ1 gg δ0 δ1 lf tk bt bw _ (hI) (by decide) _ _) cw_L_192 [0, 1, 2, 3, 4, 5, 6, 7, 8, 9, 10] M hK hZ hN hw hl.1 rfl (by decide) ⟨by decide, by decide⟩ ⟨by show _ ≤ 70; omega, by show _ ≤ 420; omega⟩ rfl rfl (Nat.le_of_ble_eq_true rfl) dL_refuses_23 (fun r sg h_3 ha H locs hw => ?_)
  obtain ⟨rfl, rfl⟩ := h_3
  have hw : xW G A s.heap (oW Y xo h0 h1 hh hb2 sl a0 a1 sv tz az ρ nx ct rr κ0 κ1 fl tn lt γ κ γ1 gg δ0 δ1 lf tk bt bw) H locs := hw
  refine x_topN (n := ρ 1) rfl ?_
  have L35 : ∀ (H : Heap) (locs : List Loc) (ls : Array Slot), xW G A s.heap (oW Y xo h0 h1 hh hb2 sl a0 a1 sv tz az ρ nx ct rr κ0 κ1 fl tn lt γ κ γ1 gg δ0 δ1 lf tk bt bw) H locs → lv_has ls 8 [(0, .ref xo), (1, .int (nI x)), (2, .int (nI (ρ 4))), (3, .int (nI (ρ 0)))] → W p l e (xRmG 40 1500 70 420) s m args below meth c H locs 3 18 Q (F0 m 35 ls [.int (nI (ρ 1))]) := by
    intro H locs ls hw hl
    refine lv_istore (lv' := [(4, .int (nI (ρ 1))), (0, .ref xo), (1, .int (nI x)), (2, .int (nI (ρ 4))), (3, .int (nI (ρ 0)))]) hx hb dL_refuses_35 hl (by decide) rfl (fun ls hl => ?_)
    refine lv_aload_n hx hb dL_refuses_37 rfl (lv_at hl 1 rfl) ?_
    refine lv_iconst (v := (nI 2)) hx hb dL_refuses_38 (by decide) ?_
    refine lv_bipush (v := (nI 6)) hx hb dL_refuses_39 (by decide) ?_
    refine lv_iload_n hx hb dL_refuses_41 rfl (lv_at hl 2 rfl) ?_
    refine lv_bipush (v := (nI 9)) hx hb dL_refuses_42 (by decide) ?_
    refine x_irem M (n := x % 9) dL_refuses_44 (by omega) (by omega) (by decide) rfl ?_
    refine x_iadd M (n := 6 + (x % 9)) dL_refuses_45 rfl ?_
    refine lv_iconst (v := (nI 0)) hx hb dL_refuses_46 (by decide) ?_
    refine lv_iconst (v := (nI 0)) hx hb dL_refuses_47 (by decide) ?_
    refine x_cSG (As := [.ref xo, .int (nI 2), .int (nI (6 + (x % 9))), .int (nI 0), .int (nI 0)]) (oT_about l hfl G Y xo h0 h1 hh hb2 sl a0 a1 sv tz az ρ nx ct rr κ0 κ1 fl tn lt γ κ γ1 gg δ0 δ1 lf tk bt bw _ (oz (by omega) (by omega)) _ _) cw_L_192 [0, 1, 2, 3, 4, 5, 6, 7, 8, 9, 10] M hK hZ hN hw hl.1 rfl (by decide) ⟨by decide, by decide⟩ ⟨by show _ ≤ 70; omega, by show _ ≤ 420; omega⟩ rfl rfl (Nat.le_of_ble_eq_true rfl) dL_refuses_48 (fun r sg h_4 ha H locs hw => ?_)
    obtain ⟨rfl, rfl⟩ := h_4
    have hw : xW G A s.heap (oW Y xo h0 h1 hh hb2 sl a0 a1 sv tz az ρ nx ct rr κ0 κ1 fl tn lt γ κ γ1 gg δ0 δ1 lf tk bt bw) H locs := hw
    refine lv_ldc (v := (-9999002)) hx hb M.2.2.2.1 (M.2.2.2.2 _ mw_387) dL_refuses_51 ?_
    refine lv_icmp_ne (tgt := 253) hx hb dL_refuses_53 (by decide) (fun z => absurd rfl z) (fun _ => ?_)
    refine lv_aload_n hx hb dL_refuses_56 rfl (lv_at hl 1 rfl) ?_
    refine lv_iconst (v := (nI 3)) hx hb dL_refuses_57 (by decide) ?_
    refine lv_iconst (v := (nI 3)) hx hb dL_refuses_58 (by decide) ?_
    refine lv_iload_n hx hb dL_refuses_59 rfl (lv_at hl 2 rfl) ?_
    refine lv_bipush (v := (nI 9)) hx hb dL_refuses_60 (by decide) ?_
    refine x_irem M (n := x % 9) dL_refuses_62 (by omega) (by omega) (by decide) rfl ?_
    refine x_iadd M (n := 3 + (x % 9)) dL_refuses_63 rfl ?_
    refine lv_bipush (v := (nI 9)) hx hb dL_refuses_64 (by decide) ?_
    refine lv_iconst (v := (nI 0)) hx hb dL_refuses_66 (by decide) ?_
    refine x_cSG (As := [.ref xo, .int (nI 3), .int (nI (3 + (x % 9))), .int (nI 9), .int (nI 0)]) (oT_kind_1 l hfl G Y xo h0 h1 hh hb2 sl a0 a1 sv tz az ρ nx ct rr κ0 κ1 fl tn lt γ κ γ1 gg δ0 δ1 lf tk bt bw _ _ (oz (by omega) (by omega)) _) cw_L_192 [0, 1, 2, 3, 4, 5, 6, 7, 8, 9, 10] M hK hZ hN hw hl.1 rfl (by decide) ⟨by decide, by decide⟩ ⟨by show _ ≤ 70; omega, by show _ ≤ 420; omega⟩ rfl rfl (Nat.le_of_ble_eq_true rfl) dL_refuses_67 (fun r sg h_5 ha H locs hw => ?_)
    obtain ⟨rfl, rfl⟩ := h_5
    have hw : xW G A s.heap (oW Y xo h0 h1 hh hb2 sl a0 a1 sv tz az ρ nx ct rr κ0 κ1 fl tn lt γ κ γ1 gg δ0 δ1 lf tk bt bw) H locs := hw
    refine lv_ldc (v := (-9999001)) hx hb M.2.2.2.1 (M.2.2.2.2 _ mw_711) dL_refuses_70 ?_
    refine lv_icmp_ne (tgt := 253) hx hb dL_refuses_72 (by decide) (fun z => absurd rfl z) (fun _ => ?_)
    refine lv_aload_n hx hb dL_refuses_75 rfl (lv_at hl 1 rfl) ?_
    refine lv_iconst (v := (nI 3)) hx hb dL_refuses_76 (by decide) ?_
    refine lv_iload_n hx hb dL_refuses_77 rfl (lv_at hl 2 rfl) ?_
    refine lv_iconst (v := (nI 3)) hx hb dL_refuses_78 (by decide) ?_
    refine x_irem M (n := x % 3) dL_refuses_79 (by omega) (by omega) (by decide) rfl ?_
    refine lv_iconst (v := (nI 4)) hx hb dL_refuses_80 (by decide) ?_
    refine lv_iload_n hx hb dL_refuses_81 rfl (lv_at hl 2 rfl) ?_
    refine lv_bipush (v := (nI 9)) hx hb dL_refuses_82 (by decide) ?_
    refine x_irem M (n := x % 9) dL_refuses_84 (by omega) (by omega) (by decide) rfl ?_
    refine x_iadd M (n := 4 + (x % 9)) dL_refuses_85 rfl ?_
    refine lv_iconst (v := (nI 0)) hx hb dL_refuses_86 (by decide) ?_
    refine x_cSG (As := [.ref xo, .int (nI 3), .int (nI (x % 3)), .int (nI (4 + (x % 9))), .int (nI 0)]) (oT_kind_2 l hfl G Y xo h0 h1 hh hb2 sl a0 a1 sv tz az ρ nx ct rr κ0 κ1 fl tn lt γ κ γ1 gg δ0 δ1 lf tk bt bw _ _ (by omega) (oz (by omega) (by omega)) _) cw_L_192 [0, 1, 2, 3, 4, 5, 6, 7, 8, 9, 10] M hK hZ hN hw hl.1 rfl (by decide) ⟨by decide, by decide⟩ ⟨by show _ ≤ 70; omega, by show _ ≤ 420; omega⟩ rfl rfl (Nat.le_of_ble_eq_true rfl) dL_refuses_87 (fun r sg h_6 ha H locs hw => ?_)
    obtain ⟨rfl, rfl⟩ := h_6
    have hw : xW G A s.heap (oW Y xo h0 h1 hh hb2 sl a0 a1 sv tz az ρ nx ct rr κ0 κ1 fl tn lt γ κ γ1 gg δ0 δ1 lf tk bt bw) H locs := hw
    refine lv_ldc (v := (-9999002)) hx hb M.2.2.2.1 (M.2.2.2.2 _ mw_387) dL_refuses_90 ?_
    refine lv_icmp_ne (tgt := 253) hx hb dL_refuses_92 (by decide) (fun z => absurd rfl z) (fun _ => ?_)
    refine lv_aload_n hx hb dL_refuses_95 rfl (lv_at hl 1 rfl) ?_
    refine lv_iconst (v := (nI 4)) hx hb dL_refuses_96 (by decide) ?_
    refine lv_iload_n hx hb dL_refuses_97 rfl (lv_at hl 3 rfl) ?_
    refine lv_bipush (v := (nI 9)) hx hb dL_refuses_98 (by decide) ?_
    refine lv_iconst (v := (nI 0)) hx hb dL_refuses_100 (by decide) ?_
    refine x_cSG (As := [.ref xo, .int (nI 4), .int (nI (ρ 4)), .int (nI 9), .int (nI 0)]) (oT_bidder_1 l hfl G Y xo h0 h1 hh hb2 sl a0 a1 sv tz az ρ nx ct rr κ0 κ1 fl tn lt γ κ γ1 gg δ0 δ1 lf tk bt bw _ _ (hI) (oz (by omega) (by omega)) _) cw_L_192 [0, 1, 2, 3, 4, 5, 6, 7, 8, 9, 10] M hK hZ hN hw hl.1 rfl (by decide) ⟨by decide, by decide⟩ ⟨by show _ ≤ 70; omega, by show _ ≤ 420; omega⟩ rfl rfl (Nat.le_of_ble_eq_true rfl) dL_refuses_101 (fun r sg h_7 ha H locs hw => ?_)
    obtain ⟨rfl, rfl⟩ := h_7
    have hw : xW G A s.heap (oW Y xo h0 h1 hh hb2 sl a0 a1 sv tz az ρ nx ct rr κ0 κ1 fl tn lt γ κ γ1 gg δ0 δ1 lf tk bt bw) H locs := hw
    refine lv_ldc (v := (-9999001)) hx hb M.2.2.2.1 (M.2.2.2.2 _ mw_711) dL_refuses_104 ?_
    refine lv_icmp_ne (tgt := 253) hx hb dL_refuses_106 (by decide) (fun z => absurd rfl z) (fun _ => ?_)
    refine lv_aload_n hx hb dL_refuses_109 rfl (lv_at hl 1 rfl) ?_
    refine lv_iconst (v := (nI 5)) hx hb dL_refuses_110 (by decide) ?_
    refine lv_iload_n hx hb dL_refuses_111 rfl (lv_at hl 3 rfl) ?_
    refine lv_iload_n hx hb dL_refuses_112 rfl (lv_at hl 2 rfl) ?_
    refine lv_bipush (v := (nI 9)) hx hb dL_refuses_113 (by decide) ?_
    refine x_irem M (n := x % 9) dL_refuses_115 (by omega) (by omega) (by decide) rfl ?_
    refine x_iadd M (n := ρ 4 + (x % 9)) dL_refuses_116 rfl ?_
    refine lv_iconst (v := (nI 0)) hx hb dL_refuses_117 (by decide) ?_
    refine lv_iconst (v := (nI 0)) hx hb dL_refuses_118 (by decide) ?_
    refine x_cSG (As := [.ref xo, .int (nI 5), .int (nI (ρ 4 + (x % 9))), .int (nI 0), .int (nI 0)]) (oT_demand_1 l hfl G Y xo h0 h1 hh hb2 sl a0 a1 sv tz az ρ nx ct rr κ0 κ1 fl tn lt γ κ γ1 gg δ0 δ1 lf tk bt bw _ _ (hI) (oz (by omega) (by omega)) _) cw_L_192 [0, 1, 2, 3, 4, 5, 6, 7, 8, 9, 10] M hK hZ hN hw hl.1 rfl (by decide) ⟨by decide, by decide⟩ ⟨by show _ ≤ 70; omega, by show _ ≤ 420; omega⟩ rfl rfl (Nat.le_of_ble_eq_true rfl) dL_refuses_119 (fun r sg h_8 ha H locs hw => ?_)
    obtain ⟨rfl, rfl⟩ := h_8
    have hw : xW G A s.heap (oW Y xo h0 h1 hh hb2 sl a0 a1 sv tz az ρ nx ct rr κ0 κ1 fl tn lt γ κ γ1 gg δ0 δ1 lf tk bt bw) H locs := hw
    refine lv_ldc (v := (-9999001)) hx hb M.2.2.2.1 (M.2.2.2.2 _ mw_711) dL_refuses_122 ?_
    refine lv_icmp_ne (tgt := 253) hx hb dL_refuses_124 (by decide) (fun z => absurd rfl z) (fun _ => ?_)
    refine lv_aload_n hx hb dL_refuses_127 rfl (lv_at hl 1 rfl) ?_
    refine lv_bipush (v := (nI 6)) hx hb dL_refuses_128 (by decide) ?_
    refine lv_iload_n hx hb dL_refuses_130 rfl (lv_at hl 3 rfl) ?_
    refine lv_iconst (v := (nI 0)) hx hb dL_refuses_131 (by decide) ?_
    refine lv_bipush (v := (nI 9)) hx hb dL_refuses_132 (by decide) ?_
    refine x_cSG (As := [.ref xo, .int (nI 6), .int (nI (ρ 4)), .int (nI 0), .int (nI 9)]) (oT_pack_1 l hfl G Y xo h0 h1 hh hb2 sl a0 a1 sv tz az ρ nx ct rr κ0 κ1 fl tn lt γ κ γ1 gg δ0 δ1 lf tk bt bw _ _ _ (hI) (oz (by omega) (by omega))) cw_L_192 [0, 1, 2, 3, 4, 5, 6, 7, 8, 9, 10] M hK hZ hN hw hl.1 rfl (by decide) ⟨by decide, by decide⟩ ⟨by show _ ≤ 70; omega, by show _ ≤ 420; omega⟩ rfl rfl (Nat.le_of_ble_eq_true rfl) dL_refuses_134 (fun r sg h_9 ha H locs hw => ?_)
    obtain ⟨rfl, rfl⟩ := h_9
    have hw : xW G A s.heap (oW Y xo h0 h1 hh hb2 sl a0 a1 sv tz az ρ nx ct rr κ0 κ1 fl tn lt γ κ γ1 gg δ0 δ1 lf tk bt bw) H locs := hw
    refine lv_ldc (v := (-9999001)) hx hb M.2.2.2.1 (M.2.2.2.2 _ mw_711) dL_refuses_137 ?_
    refine lv_icmp_ne (tgt := 253) hx hb dL_refuses_139 (by decide) (fun z => absurd rfl z) (fun _ => ?_)
    refine lv_aload_n hx hb dL_refuses_142 rfl (lv_at hl 1 rfl) ?_
    refine lv_bipush (v := (nI 7)) hx hb dL_refuses_143 (by decide) ?_
    refine lv_iconst (v := (nI 2)) hx hb dL_refuses_145 (by decide) ?_
    refine lv_iload_n hx hb dL_refuses_146 rfl (lv_at hl 2 rfl) ?_
    refine lv_bipush (v := (nI 9)) hx hb dL_refuses_147 (by decide) ?_
    refine x_irem M (n := x % 9) dL_refuses_149 (by omega) (by omega) (by decide) rfl ?_
    refine x_iadd M (n := 2 + (x % 9)) dL_refuses_150 rfl ?_
    refine lv_iconst (v := (nI 0)) hx hb dL_refuses_151 (by decide) ?_
    refine lv_iconst (v := (nI 0)) hx hb dL_refuses_152 (by decide) ?_
    refine x_cSG (As := [.ref xo, .int (nI 7), .int (nI (2 + (x % 9))), .int (nI 0), .int (nI 0)]) (oT_setting l hfl G Y xo h0 h1 hh hb2 sl a0 a1 sv tz az ρ nx ct rr κ0 κ1 fl tn lt γ κ γ1 gg δ0 δ1 lf tk bt bw _ (oz (by omega) (by omega)) _ _) cw_L_192 [0, 1, 2, 3, 4, 5, 6, 7, 8, 9, 10] M hK hZ hN hw hl.1 rfl (by decide) ⟨by decide, by decide⟩ ⟨by show _ ≤ 70; omega, by show _ ≤ 420; omega⟩ rfl rfl (Nat.le_of_ble_eq_true rfl) dL_refuses_153 (fun r sg h_10 ha H locs hw => ?_)
    obtain ⟨rfl, rfl⟩ := h_10
    have hw : xW G A s.heap (oW Y xo h0 h1 hh hb2 sl a0 a1 sv tz az ρ nx ct rr κ0 κ1 fl tn lt γ κ γ1 gg δ0 δ1 lf tk bt bw) H locs := hw
    refine lv_ldc (v := (-9999002)) hx hb M.2.2.2.1 (M.2.2.2.2 _ mw_387) dL_refuses_156 ?_
    refine lv_icmp_ne (tgt := 253) hx hb dL_refuses_158 (by decide) (fun z => absurd rfl z) (fun _ => ?_)
    refine lv_aload_n hx hb dL_refuses_161 rfl (lv_at hl 1 rfl) ?_
    refine lv_bipush (v := (nI 8)) hx hb dL_refuses_162 (by decide) ?_
    refine lv_iconst (v := (nI 3)) hx hb dL_refuses_164 (by decide) ?_
    refine lv_iconst (v := (nI 0)) hx hb dL_refuses_165 (by decide) ?_
    refine lv_iconst (v := (nI 0)) hx hb dL_refuses_166 (by decide) ?_
    refine x_cSG (As := [.ref xo, .int (nI 8), .int (nI 3), .int (nI 0), .int (nI 0)]) (oT_offer_1 l hfl G Y xo h0 h1 hh hb2 sl a0 a1 sv tz az ρ nx ct rr κ0 κ1 fl tn lt γ κ γ1 gg δ0 δ1 lf tk bt bw _ _ _ (hI) (by unfold whyOffer; rw [if_pos (oz (by omega) (by omega))])) cw_L_192 [0, 1, 2, 3, 4, 5, 6, 7, 8, 9, 10] M hK hZ hN hw hl.1 rfl (by decide) ⟨by decide, by decide⟩ ⟨by show _ ≤ 70; omega, by show _ ≤ 420; omega⟩ rfl rfl (Nat.le_of_ble_eq_true rfl) dL_refuses_167 (fun r sg h_11 ha H locs hw => ?_)
    obtain ⟨rfl, rfl⟩ := h_11
    have hw : xW G A s.heap (oW Y xo h0 h1 hh hb2 sl a0 a1 sv tz az ρ nx ct rr κ0 κ1 fl tn lt γ κ γ1 gg δ0 δ1 lf tk bt bw) H locs := hw
    refine lv_ldc (v := (-9999001)) hx hb M.2.2.2.1 (M.2.2.2.2 _ mw_711) dL_refuses_170 ?_
    refine lv_icmp_ne (tgt := 253) hx hb dL_refuses_172 (by decide) (fun z => absurd rfl z) (fun _ => ?_)
    refine lv_aload_n hx hb dL_refuses_175 rfl (lv_at hl 1 rfl) ?_
    refine lv_bipush (v := (nI 8)) hx hb dL_refuses_176 (by decide) ?_
    refine lv_iload_n hx hb dL_refuses_178 rfl (lv_at hl 2 rfl) ?_
    refine lv_iconst (v := (nI 3)) hx hb dL_refuses_179 (by decide) ?_
    refine x_irem M (n := x % 3) dL_refuses_180 (by omega) (by omega) (by decide) rfl ?_
    refine lv_bipush (v := (nI 10)) hx hb dL_refuses_181 (by decide) ?_
    refine lv_iload_n hx hb dL_refuses_183 rfl (lv_at hl 2 rfl) ?_
    refine lv_bipush (v := (nI 9)) hx hb dL_refuses_184 (by decide) ?_
    refine x_irem M (n := x % 9) dL_refuses_186 (by omega) (by omega) (by decide) rfl ?_
    refine x_iadd M (n := 10 + (x % 9)) dL_refuses_187 rfl ?_
    refine lv_iconst (v := (nI 1)) hx hb dL_refuses_188 (by decide) ?_
    refine x_cSG (As := [.ref xo, .int (nI 8), .int (nI (x % 3)), .int (nI (10 + (x % 9))), .int (nI 1)]) (oT_offer_2 l hfl G Y xo h0 h1 hh hb2 sl a0 a1 sv tz az ρ nx ct rr κ0 κ1 fl tn lt γ κ γ1 gg δ0 δ1 lf tk bt bw _ _ _ (hI) (by unfold whyOffer; rw [if_neg (iz (by omega) (by omega) (by omega)), if_pos (oz (by omega) (by omega))])) cw_L_192 [0, 1, 2, 3, 4, 5, 6, 7, 8, 9, 10] M hK hZ hN hw hl.1 rfl (by decide) ⟨by decide, by decide⟩ ⟨by show _ ≤ 70; omega, by show _ ≤ 420; omega⟩ rfl rfl (Nat.le_of_ble_eq_true rfl) dL_refuses_189 (fun r sg h_12 ha H locs hw => ?_)
    obtain ⟨rfl, rfl⟩ := h_12
    have hw : xW G A s.heap (oW Y xo h0 h1 hh hb2 sl a0 a1 sv tz az ρ nx ct rr κ0 κ1 fl tn lt γ κ γ1 gg δ0 δ1 lf tk bt bw) H locs := hw
    refine lv_ldc (v := (-9999002)) hx hb M.2.2.2.1 (M.2.2.2.2 _ mw_387) dL_refuses_192 ?_
    refine lv_icmp_ne (tgt := 253) hx hb dL_refuses_194 (by decide) (fun z => absurd rfl z) (fun _ => ?_)
    refine lv_aload_n hx hb dL_refuses_197 rfl (lv_at hl 1 rfl) ?_
    refine lv_bipush (v := (nI 8)) hx hb dL_refuses_198 (by decide) ?_
    refine lv_iload_n hx hb dL_refuses_200 rfl (lv_at hl 2 rfl) ?_
    refine lv_iconst (v := (nI 3)) hx hb dL_refuses_201 (by decide) ?_
    refine x_irem M (n := x % 3) dL_refuses_202 (by omega) (by omega) (by decide) rfl ?_
    refine lv_iconst (v := (nI 1)) hx hb dL_refuses_203 (by decide) ?_
    refine lv_iconst (v := (nI 0)) hx hb dL_refuses_204 (by decide) ?_
    refine x_cSG (As := [.ref xo, .int (nI 8), .int (nI (x % 3)), .int (nI 1), .int (nI 0)]) (oT_offer_2 l hfl G Y xo h0 h1 hh hb2 sl a0 a1 sv tz az ρ nx ct rr κ0 κ1 fl tn lt γ κ γ1 gg δ0 δ1 lf tk bt bw _ _ _ (hI) (by unfold whyOffer; rw [if_neg (iz (by omega) (by omega) (by omega)), if_neg (iz (by omega) (by omega) (by omega)), if_pos (oz (by omega) (by omega))])) cw_L_192 [0, 1, 2, 3, 4, 5, 6, 7, 8, 9, 10] M hK hZ hN hw hl.1 rfl (by decide) ⟨by decide, by decide⟩ ⟨by show _ ≤ 70; omega, by show _ ≤ 420; omega⟩ rfl rfl (Nat.le_of_ble_eq_true rfl) dL_refuses_205 (fun r sg h_13 ha H locs hw => ?_)
    obtain ⟨rfl, rfl⟩ := h_13
    have hw : xW G A s.heap (oW Y xo h0 h1 hh hb2 sl a0 a1 sv tz az ρ nx ct rr κ0 κ1 fl tn lt γ κ γ1 gg δ0 δ1 lf tk bt bw) H locs := hw
    refine lv_ldc (v := (-9999002)) hx hb M.2.2.2.1 (M.2.2.2.2 _ mw_387) dL_refuses_208 ?_
    refine lv_icmp_ne (tgt := 253) hx hb dL_refuses_210 (by decide) (fun z => absurd rfl z) (fun _ => ?_)
    refine lv_aload_n hx hb dL_refuses_213 rfl (lv_at hl 1 rfl) ?_
    refine lv_bipush (v := (nI 9)) hx hb dL_refuses_214 (by decide) ?_
    refine lv_iconst (v := (nI 3)) hx hb dL_refuses_216 (by decide) ?_
    refine lv_iconst (v := (nI 0)) hx hb dL_refuses_217 (by decide) ?_
    refine lv_iconst (v := (nI 0)) hx hb dL_refuses_218 (by decide) ?_
    refine x_cSG (As := [.ref xo, .int (nI 9), .int (nI 3), .int (nI 0), .int (nI 0)]) (oT_price_1 l hfl G Y xo h0 h1 hh hb2 sl a0 a1 sv tz az ρ nx ct rr κ0 κ1 fl tn lt γ κ γ1 gg δ0 δ1 lf tk bt bw _ _ (hI) (by unfold whyPrice; rw [if_pos (oz (by omega) (by omega))]) _) cw_L_192 [0, 1, 2, 3, 4, 5, 6, 7, 8, 9, 10] M hK hZ hN hw hl.1 rfl (by decide) ⟨by decide, by decide⟩ ⟨by show _ ≤ 70; omega, by show _ ≤ 420; omega⟩ rfl rfl (Nat.le_of_ble_eq_true rfl) dL_refuses_219 (fun r sg h_14 ha H locs hw => ?_)
    obtain ⟨rfl, rfl⟩ := h_14
    have hw : xW G A s.heap (oW Y xo h0 h1 hh hb2 sl a0 a1 sv tz az ρ nx ct rr κ0 κ1 fl tn lt γ κ γ1 gg δ0 δ1 lf tk bt bw) H locs := hw
    refine lv_ldc (v := (-9999001)) hx hb M.2.2.2.1 (M.2.2.2.2 _ mw_711) dL_refuses_222 ?_
    refine lv_icmp_ne (tgt := 253) hx hb dL_refuses_224 (by decide) (fun z => absurd rfl z) (fun _ => ?_)
    refine lv_aload_n hx hb dL_refuses_227 rfl (lv_at hl 1 rfl) ?_
    refine lv_bipush (v := (nI 9)) hx hb dL_refuses_228 (by decide) ?_
    refine lv_iload_n hx hb dL_refuses_230 rfl (lv_at hl 2 rfl) ?_
    refine lv_iconst (v := (nI 3)) hx hb dL_refuses_231 (by decide) ?_
    refine x_irem M (n := x % 3) dL_refuses_232 (by omega) (by omega) (by decide) rfl ?_
    refine lv_ldc (v := (nI 100000)) hx hb M.2.2.2.1 (M.2.2.2.2 _ mw_970) dL_refuses_233 ?_
    refine lv_iload_n hx hb dL_refuses_235 rfl (lv_at hl 2 rfl) ?_
    refine lv_bipush (v := (nI 9)) hx hb dL_refuses_236 (by decide) ?_
    refine x_irem M (n := x % 9) dL_refuses_238 (by omega) (by omega) (by decide) rfl ?_
    refine x_iadd M (n := 100000 + (x % 9)) dL_refuses_239 rfl ?_
    refine lv_iconst (v := (nI 0)) hx hb dL_refuses_240 (by decide) ?_
    refine x_cSG (As := [.ref xo, .int (nI 9), .int (nI (x % 3)), .int (nI (100000 + (x % 9))), .int (nI 0)]) (oT_price_2 l hfl G Y xo h0 h1 hh hb2 sl a0 a1 sv tz az ρ nx ct rr κ0 κ1 fl tn lt γ κ γ1 gg δ0 δ1 lf tk bt bw _ _ (hI) (by unfold whyPrice; rw [if_neg (iz (by omega) (by omega) (by omega)), if_pos (oz (by omega) (by omega))]) _) cw_L_192 [0, 1, 2, 3, 4, 5, 6, 7, 8, 9, 10] M hK hZ hN hw hl.1 rfl (by decide) ⟨by decide, by decide⟩ ⟨by show _ ≤ 70; omega, by show _ ≤ 420; omega⟩ rfl rfl (Nat.le_of_ble_eq_true rfl) dL_refuses_241 (fun r sg h_15 ha H locs hw => ?_)
    obtain ⟨rfl, rfl⟩ := h_15
    have hw : xW G A s.heap (oW Y xo h0 h1 hh hb2 sl a0 a1 sv tz az ρ nx ct rr κ0 κ1 fl tn lt γ κ γ1 gg δ0 δ1 lf tk bt bw) H locs := hw
    refine lv_ldc (v := (-9999002)) hx hb M.2.2.2.1 (M.2.2.2.2 _ mw_387) dL_refuses_244 ?_
    refine lv_icmp_ne (tgt := 253) hx hb dL_refuses_246 (by decide) (fun z => absurd rfl z) (fun _ => ?_)
    refine lv_iconst (v := (nI 1)) hx hb dL_refuses_249 (by decide) ?_
    refine lv_goto (tgt := 254) hx hb dL_refuses_250 (by decide) ?_
    refine lv_istore (lv' := [(5, .int (nI 1)), (4, .int (nI (ρ 1))), (0, .ref xo), (1, .int (nI x)), (2, .int (nI (ρ 4))), (3, .int (nI (ρ 0)))]) hx hb dL_refuses_254 hl (by decide) rfl (fun ls hl => ?_)
    refine lv_iload hx hb dL_refuses_256 (lv_at hl 0 rfl) ?_
    refine x_zeq M (tgt := 512) (by decide) dL_refuses_258 (by decide) (fun c_16 => by exfalso; exact absurd c_16 (by decide)) (fun c_16 => ?_)
    refine lv_aload_n hx hb dL_refuses_261 rfl (lv_at hl 2 rfl) ?_
    refine lv_bipush (v := (nI 10)) hx hb dL_refuses_262 (by decide) ?_
    refine lv_bipush (v := (nI 100)) hx hb dL_refuses_264 (by decide) ?_
    refine lv_iload_n hx hb dL_refuses_266 rfl (lv_at hl 3 rfl) ?_
    refine lv_bipush (v := (nI 9)) hx hb dL_refuses_267 (by decide) ?_
    refine x_irem M (n := x % 9) dL_refuses_269 (by omega) (by omega) (by decide) rfl ?_
    refine x_iadd M (n := 100 + (x % 9)) dL_refuses_270 rfl ?_
    refine lv_iconst (v := (nI 1)) hx hb dL_refuses_271 (by decide) ?_
    refine lv_iconst (v := (nI 0)) hx hb dL_refuses_272 (by decide) ?_
    refine x_cSG (As := [.ref xo, .int (nI 10), .int (nI (100 + (x % 9))), .int (nI 1), .int (nI 0)]) (oT_join_2 l hfl G Y xo h0 h1 hh hb2 sl a0 a1 sv tz az ρ nx ct rr κ0 κ1 fl tn lt γ κ γ1 gg δ0 δ1 lf tk bt bw _ _ (hI) (by unfold whyJoin; rw [if_pos (oz (by omega) (by omega))]) _) cw_L_192 [0, 1, 2, 3, 4, 5, 6, 7, 8, 9, 10] M hK hZ hN hw hl.1 rfl (by decide) ⟨by decide, by decide⟩ ⟨by show _ ≤ 70; omega, by show _ ≤ 420; omega⟩ rfl rfl (Nat.le_of_ble_eq_true rfl) dL_refuses_273 (fun r sg h_17 ha H locs hw => ?_)
    obtain ⟨rfl, rfl⟩ := h_17
    have hw : xW G A s.heap (oW Y xo h0 h1 hh hb2 sl a0 a1 sv tz az ρ nx ct rr κ0 κ1 fl tn lt γ κ γ1 gg δ0 δ1 lf tk bt bw) H locs := hw
    refine lv_ldc (v := (-9999002)) hx hb M.2.2.2.1 (M.2.2.2.2 _ mw_387) dL_refuses_276 ?_
    refine lv_icmp_ne (tgt := 512) hx hb dL_refuses_278 (by decide) (fun z => absurd rfl z) (fun _ => ?_)
    refine lv_aload_n hx hb dL_refuses_281 rfl (lv_at hl 2 rfl) ?_
    refine lv_bipush (v := (nI 10)) hx hb dL_refuses_282 (by decide) ?_
    refine lv_iconst (v := (nI 1)) hx hb dL_refuses_284 (by decide) ?_
    refine lv_bipush (v := (nI 10)) hx hb dL_refuses_285 (by decide) ?_
    refine lv_iload_n hx hb dL_refuses_287 rfl (lv_at hl 3 rfl) ?_
    refine lv_bipush (v := (nI 9)) hx hb dL_refuses_288 (by decide) ?_
    refine x_irem M (n := x % 9) dL_refuses_290 (by omega) (by omega) (by decide) rfl ?_
    refine x_iadd M (n := 10 + (x % 9)) dL_refuses_291 rfl ?_
    refine lv_iconst (v := (nI 0)) hx hb dL_refuses_292 (by decide) ?_
    refine x_cSG (As := [.ref xo, .int (nI 10), .int (nI 1), .int (nI (10 + (x % 9))), .int (nI 0)]) (oT_join_2 l hfl G Y xo h0 h1 hh hb2 sl a0 a1 sv tz az ρ nx ct rr κ0 κ1 fl tn lt γ κ γ1 gg δ0 δ1 lf tk bt bw _ _ (hI) (by unfold whyJoin; rw [if_neg (iz (by omega) (by omega) (by omega)), if_pos (oz (by omega) (by omega))]) _) cw_L_192 [0, 1, 2, 3, 4, 5, 6, 7, 8, 9, 10] M hK hZ hN hw hl.1 rfl (by decide) ⟨by decide, by decide⟩ ⟨by show _ ≤ 70; omega, by show _ ≤ 420; omega⟩ rfl rfl (Nat.le_of_ble_eq_true rfl) dL_refuses_293 (fun r sg h_18 ha H locs hw => ?_)
    obtain ⟨rfl, rfl⟩ := h_18
    have hw : xW G A s.heap (oW Y xo h0 h1 hh hb2 sl a0 a1 sv tz az ρ nx ct rr κ0 κ1 fl tn lt γ κ γ1 gg δ0 δ1 lf tk bt bw) H locs := hw
    refine lv_ldc (v := (-9999002)) hx hb M.2.2.2.1 (M.2.2.2.2 _ mw_387) dL_refuses_296 ?_
    refine lv_icmp_ne (tgt := 512) hx hb dL_refuses_298 (by decide) (fun z => absurd rfl z) (fun _ => ?_)
    refine lv_aload_n hx hb dL_refuses_301 rfl (lv_at hl 2 rfl) ?_
    refine lv_bipush (v := (nI 11)) hx hb dL_refuses_302 (by decide) ?_
    refine lv_iload_n hx hb dL_refuses_304 rfl (lv_at hl 4 rfl) ?_
    refine lv_iconst (v := (nI 0)) hx hb dL_refuses_305 (by decide) ?_
    refine lv_iconst (v := (-1)) hx hb dL_refuses_306 (by decide) ?_
    refine x_cSG (As := [.ref xo, .int (nI 11), .int (nI (ρ 4)), .int (nI 0), .int (-1)]) (oT_value_1 l hfl G Y xo h0 h1 hh hb2 sl a0 a1 sv tz az ρ nx ct rr κ0 κ1 fl tn lt γ κ γ1 gg δ0 δ1 lf tk bt bw _ _ _ (hI) (by unfold whyValue; rw [if_pos (oz (by omega) (by omega))])) cw_L_192 [0, 1, 2, 3, 4, 5, 6, 7, 8, 9, 10] M hK hZ hN hw hl.1 rfl (by decide) ⟨by decide, by decide⟩ ⟨by show _ ≤ 70; omega, by show _ ≤ 420; omega⟩ rfl rfl (Nat.le_of_ble_eq_true rfl) dL_refuses_307 (fun r sg h_19 ha H locs hw => ?_)
    obtain ⟨rfl, rfl⟩ := h_19
    have hw : xW G A s.heap (oW Y xo h0 h1 hh hb2 sl a0 a1 sv tz az ρ nx ct rr κ0 κ1 fl tn lt γ κ γ1 gg δ0 δ1 lf tk bt bw) H locs := hw
    refine lv_ldc (v := (-9999001)) hx hb M.2.2.2.1 (M.2.2.2.2 _ mw_711) dL_refuses_310 ?_
    refine lv_icmp_ne (tgt := 512) hx hb dL_refuses_312 (by decide) (fun z => absurd rfl z) (fun _ => ?_)
    refine lv_aload_n hx hb dL_refuses_315 rfl (lv_at hl 2 rfl) ?_
    refine lv_bipush (v := (nI 12)) hx hb dL_refuses_316 (by decide) ?_
    refine lv_iload_n hx hb dL_refuses_318 rfl (lv_at hl 4 rfl) ?_
    refine lv_iconst (v := (nI 0)) hx hb dL_refuses_319 (by decide) ?_
    refine lv_bipush (v := (nI 10)) hx hb dL_refuses_320 (by decide) ?_
    refine x_cSG (As := [.ref xo, .int (nI 12), .int (nI (ρ 4)), .int (nI 0), .int (nI 10)]) (oT_ask_1 l hfl G Y xo h0 h1 hh hb2 sl a0 a1 sv tz az ρ nx ct rr κ0 κ1 fl tn lt γ κ γ1 gg δ0 δ1 lf tk bt bw _ _ _ (hI) (by unfold whyAsk; rw [if_pos (oz (by omega) (by omega))])) cw_L_192 [0, 1, 2, 3, 4, 5, 6, 7, 8, 9, 10] M hK hZ hN hw hl.1 rfl (by decide) ⟨by decide, by decide⟩ ⟨by show _ ≤ 70; omega, by show _ ≤ 420; omega⟩ rfl rfl (Nat.le_of_ble_eq_true rfl) dL_refuses_322 (fun r sg h_20 ha H locs hw => ?_)
    obtain ⟨rfl, rfl⟩ := h_20
    have hw : xW G A s.heap (oW Y xo h0 h1 hh hb2 sl a0 a1 sv tz az ρ nx ct rr κ0 κ1 fl tn lt γ κ γ1 gg δ0 δ1 lf tk bt bw) H locs := hw
    refine lv_ldc (v := (-9999001)) hx hb M.2.2.2.1 (M.2.2.2.2 _ mw_711) dL_refuses_325 ?_
    refine lv_icmp_ne (tgt := 512) hx hb dL_refuses_327 (by decide) (fun z => absurd rfl z) (fun _ => ?_)
    refine lv_aload_n hx hb dL_refuses_330 rfl (lv_at hl 2 rfl) ?_
    refine lv_bipush (v := (nI 13)) hx hb dL_refuses_331 (by decide) ?_
    refine lv_iload_n hx hb dL_refuses_333 rfl (lv_at hl 4 rfl) ?_
    refine lv_iload_n hx hb dL_refuses_334 rfl (lv_at hl 3 rfl) ?_
    refine lv_bipush (v := (nI 9)) hx hb dL_refuses_335 (by decide) ?_
    refine x_irem M (n := x % 9) dL_refuses_337 (by omega) (by omega) (by decide) rfl ?_
    refine x_iadd M (n := ρ 4 + (x % 9)) dL_refuses_338 rfl ?_
    refine lv_iconst (v := (nI 0)) hx hb dL_refuses_339 (by decide) ?_
    refine lv_iconst (v := (nI 0)) hx hb dL_refuses_340 (by decide) ?_
    refine x_cSG (As := [.ref xo, .int (nI 13), .int (nI (ρ 4 + (x % 9))), .int (nI 0), .int (nI 0)]) (oT_bid_1 l hfl G Y xo h0 h1 hh hb2 sl a0 a1 sv tz az ρ nx ct rr κ0 κ1 fl tn lt γ κ γ1 gg δ0 δ1 lf tk bt bw _ (hI) (by unfold whyBid; rw [if_pos (oz (by omega) (by omega))]) _ _) cw_L_192 [0, 1, 2, 3, 4, 5, 6, 7, 8, 9, 10] M hK hZ hN hw hl.1 rfl (by decide) ⟨by decide, by decide⟩ ⟨by show _ ≤ 70; omega, by show _ ≤ 420; omega⟩ rfl rfl (Nat.le_of_ble_eq_true rfl) dL_refuses_341 (fun r sg h_21 ha H locs hw => ?_)
    obtain ⟨rfl, rfl⟩ := h_21
    have hw : xW G A s.heap (oW Y xo h0 h1 hh hb2 sl a0 a1 sv tz az ρ nx ct rr κ0 κ1 fl tn lt γ κ γ1 gg δ0 δ1 lf tk bt bw) H locs := hw
    refine lv_ldc (v := (-9999001)) hx hb M.2.2.2.1 (M.2.2.2.2 _ mw_711) dL_refuses_344 ?_
    refine lv_icmp_ne (tgt := 512) hx hb dL_refuses_346 (by decide) (fun z => absurd rfl z) (fun _ => ?_)
    refine lv_aload_n hx hb dL_refuses_349 rfl (lv_at hl 2 rfl) ?_
    refine lv_iload_n hx hb dL_refuses_350 rfl (lv_at hl 4 rfl) ?_
    refine lv_bipush (v := (nI 10)) hx hb dL_refuses_351 (by decide) ?_
    refine lv_iconst (v := (nI 0)) hx hb dL_refuses_353 (by decide) ?_
    refine lv_iconst (v := (nI 0)) hx hb dL_refuses_354 (by decide) ?_
    refine lv_iconst (v := (nI 0)) hx hb dL_refuses_355 (by decide) ?_
    refine x_cSL2 (As := [.ref xo, .int (nI (ρ 4)), .int (nI 10), .int (nI 0), .int (nI 0), .int (nI 0)]) (oT_add_1 l hfl G Y xo h0 h1 hh hb2 sl a0 a1 sv tz az ρ nx ct rr κ0 κ1 fl tn lt γ κ γ1 gg δ0 δ1 lf tk bt bw _ _ _ _ _ (hI) (by unfold whyAdd; rw [if_pos (oz (by omega) (by omega))])) cl_tryAdd [0, 1, 2, 3, 4, 5, 6, 7, 8, 9, 10] M hK hZ hN hw hl.1 rfl (by decide) ⟨by decide, by decide⟩ ⟨by show _ ≤ 70; omega, by show _ ≤ 420; omega⟩ rfl rfl (Nat.le_of_ble_eq_true rfl) dL_refuses_356 (fun r sg h_22 ha H locs hw => ?_)
    obtain ⟨rfl, rfl⟩ := h_22
    have hw : xW G A s.heap (oW Y xo h0 h1 hh hb2 sl a0 a1 sv tz az ρ nx ct rr κ0 κ1 fl tn lt γ κ γ1 gg δ0 δ1 lf tk bt bw) H locs := hw
    refine lv_ldc (v := (-9999001)) hx hb M.2.2.2.1 (M.2.2.2.2 _ mw_711) dL_refuses_359 ?_
    refine lv_icmp_ne (tgt := 512) hx hb dL_refuses_361 (by decide) (fun z => absurd rfl z) (fun _ => ?_)
    refine lv_aload_n hx hb dL_refuses_364 rfl (lv_at hl 2 rfl) ?_
    refine lv_bipush (v := (nI 15)) hx hb dL_refuses_365 (by decide) ?_
    refine lv_iload_n hx hb dL_refuses_367 rfl (lv_at hl 4 rfl) ?_
    refine lv_iconst (v := (nI 1)) hx hb dL_refuses_368 (by decide) ?_
    refine lv_iconst (v := (nI 0)) hx hb dL_refuses_369 (by decide) ?_
    refine x_cSG (As := [.ref xo, .int (nI 15), .int (nI (ρ 4)), .int (nI 1), .int (nI 0)]) (oT_drop_1 l hfl G Y xo h0 h1 hh hb2 sl a0 a1 sv tz az ρ nx ct rr κ0 κ1 fl tn lt γ κ γ1 gg δ0 δ1 lf tk bt bw _ _ (hI) (by unfold whyDrop; rw [if_pos (oz (by omega) (by omega))]) _) cw_L_192 [0, 1, 2, 3, 4, 5, 6, 7, 8, 9, 10] M hK hZ hN hw hl.1 rfl (by decide) ⟨by decide, by decide⟩ ⟨by show _ ≤ 70; omega, by show _ ≤ 420; omega⟩ rfl rfl (Nat.le_of_ble_eq_true rfl) dL_refuses_370 (fun r sg h_23 ha H locs hw => ?_)
    obtain ⟨rfl, rfl⟩ := h_23
    have hw : xW G A s.heap (oW Y xo h0 h1 hh hb2 sl a0 a1 sv tz az ρ nx ct rr κ0 κ1 fl tn lt γ κ γ1 gg δ0 δ1 lf tk bt bw) H locs := hw
    refine lv_ldc (v := (-9999001)) hx hb M.2.2.2.1 (M.2.2.2.2 _ mw_711) dL_refuses_373 ?_
    refine lv_icmp_ne (tgt := 512) hx hb dL_refuses_375 (by decide) (fun z => absurd rfl z) (fun _ => ?_)
    refine lv_aload_n hx hb dL_refuses_378 rfl (lv_at hl 2 rfl) ?_
    refine lv_bipush (v := (nI 16)) hx hb dL_refuses_379 (by decide) ?_
    refine lv_iconst (v := (nI 0)) hx hb dL_refuses_381 (by decide) ?_
    refine lv_bipush (v := (nI 101)) hx hb dL_refuses_382 (by decide) ?_
    refine lv_iload_n hx hb dL_refuses_384 rfl (lv_at hl 3 rfl) ?_
    refine lv_bipush (v := (nI 9)) hx hb dL_refuses_385 (by decide) ?_
    refine x_irem M (n := x % 9) dL_refuses_387 (by omega) (by omega) (by decide) rfl ?_
    refine x_iadd M (n := 101 + (x % 9)) dL_refuses_388 rfl ?_
    refine lv_iconst (v := (nI 0)) hx hb dL_refuses_389 (by decide) ?_
    refine x_cSG (As := [.ref xo, .int (nI 16), .int (nI 0), .int (nI (101 + (x % 9))), .int (nI 0)]) (oT_set_2 l hfl G Y xo h0 h1 hh hb2 sl a0 a1 sv tz az ρ nx ct rr κ0 κ1 fl tn lt γ κ γ1 gg δ0 δ1 lf tk bt bw _ _ (hI) (by unfold whySet; rw [if_pos (by decide), if_pos (oz (by omega) (by omega))]) _) cw_L_192 [0, 1, 2, 3, 4, 5, 6, 7, 8, 9, 10] M hK hZ hN hw hl.1 rfl (by decide) ⟨by decide, by decide⟩ ⟨by show _ ≤ 70; omega, by show _ ≤ 420; omega⟩ rfl rfl (Nat.le_of_ble_eq_true rfl) dL_refuses_390 (fun r sg h_24 ha H locs hw => ?_)
    obtain ⟨rfl, rfl⟩ := h_24
    have hw : xW G A s.heap (oW Y xo h0 h1 hh hb2 sl a0 a1 sv tz az ρ nx ct rr κ0 κ1 fl tn lt γ κ γ1 gg δ0 δ1 lf tk bt bw) H locs := hw
    refine lv_ldc (v := (-9999002)) hx hb M.2.2.2.1 (M.2.2.2.2 _ mw_387) dL_refuses_393 ?_
    refine lv_icmp_ne (tgt := 512) hx hb dL_refuses_395 (by decide) (fun z => absurd rfl z) (fun _ => ?_)
    refine lv_aload_n hx hb dL_refuses_398 rfl (lv_at hl 2 rfl) ?_
    refine lv_bipush (v := (nI 16)) hx hb dL_refuses_399 (by decide) ?_
    refine lv_iconst (v := (nI 1)) hx hb dL_refuses_401 (by decide) ?_
    refine lv_bipush (v := (nI 51)) hx hb dL_refuses_402 (by decide) ?_
    refine lv_iload_n hx hb dL_refuses_404 rfl (lv_at hl 3 rfl) ?_
    refine lv_bipush (v := (nI 9)) hx hb dL_refuses_405 (by decide) ?_
    refine x_irem M (n := x % 9) dL_refuses_407 (by omega) (by omega) (by decide) rfl ?_
    refine x_iadd M (n := 51 + (x % 9)) dL_refuses_408 rfl ?_
    refine lv_iconst (v := (nI 0)) hx hb dL_refuses_409 (by decide) ?_
    refine x_cSG (As := [.ref xo, .int (nI 16), .int (nI 1), .int (nI (51 + (x % 9))), .int (nI 0)]) (oT_set_2 l hfl G Y xo h0 h1 hh hb2 sl a0 a1 sv tz az ρ nx ct rr κ0 κ1 fl tn lt γ κ γ1 gg δ0 δ1 lf tk bt bw _ _ (hI) (by unfold whySet; rw [if_neg (by decide), if_pos (by decide), if_pos (oz (by omega) (by omega))]) _) cw_L_192 [0, 1, 2, 3, 4, 5, 6, 7, 8, 9, 10] M hK hZ hN hw hl.1 rfl (by decide) ⟨by decide, by decide⟩ ⟨by show _ ≤ 70; omega, by show _ ≤ 420; omega⟩ rfl rfl (Nat.le_of_ble_eq_true rfl) dL_refuses_410 (fun r sg h_25 ha H locs hw => ?_)
    obtain ⟨rfl, rfl⟩ := h_25
    have hw : xW G A s.heap (oW Y xo h0 h1 hh hb2 sl a0 a1 sv tz az ρ nx ct rr κ0 κ1 fl tn lt γ κ γ1 gg δ0 δ1 lf tk bt bw) H locs := hw
    refine lv_ldc (v := (-9999002)) hx hb M.2.2.2.1 (M.2.2.2.2 _ mw_387) dL_refuses_413 ?_
    refine lv_icmp_ne (tgt := 512) hx hb dL_refuses_415 (by decide) (fun z => absurd rfl z) (fun _ => ?_)
    refine lv_aload_n hx hb dL_refuses_418 rfl (lv_at hl 2 rfl) ?_
    refine lv_bipush (v := (nI 16)) hx hb dL_refuses_419 (by decide) ?_
    refine lv_iconst (v := (nI 2)) hx hb dL_refuses_421 (by decide) ?_
    refine lv_bipush (v := (nI 50)) hx hb dL_refuses_422 (by decide) ?_
    refine lv_iconst (v := (nI 0)) hx hb dL_refuses_424 (by decide) ?_
    refine x_cSG (As := [.ref xo, .int (nI 16), .int (nI 2), .int (nI 50), .int (nI 0)]) (oT_set_2 l hfl G Y xo h0 h1 hh hb2 sl a0 a1 sv tz az ρ nx ct rr κ0 κ1 fl tn lt γ κ γ1 gg δ0 δ1 lf tk bt bw _ _ (hI) (by unfold whySet; rw [if_neg (by decide), if_neg (by decide)]) _) cw_L_192 [0, 1, 2, 3, 4, 5, 6, 7, 8, 9, 10] M hK hZ hN hw hl.1 rfl (by decide) ⟨by decide, by decide⟩ ⟨by show _ ≤ 70; omega, by show _ ≤ 420; omega⟩ rfl rfl (Nat.le_of_ble_eq_true rfl) dL_refuses_425 (fun r sg h_26 ha H locs hw => ?_)
    obtain ⟨rfl, rfl⟩ := h_26
    have hw : xW G A s.heap (oW Y xo h0 h1 hh hb2 sl a0 a1 sv tz az ρ nx ct rr κ0 κ1 fl tn lt γ κ γ1 gg δ0 δ1 lf tk bt bw) H locs := hw
    refine lv_ldc (v := (-9999002)) hx hb M.2.2.2.1 (M.2.2.2.2 _ mw_387) dL_refuses_428 ?_
    refine lv_icmp_ne (tgt := 512) hx hb dL_refuses_430 (by decide) (fun z => absurd rfl z) (fun _ => ?_)
    refine lv_aload_n hx hb dL_refuses_433 rfl (lv_at hl 2 rfl) ?_
    refine lv_bipush (v := (nI 18)) hx hb dL_refuses_434 (by decide) ?_
    refine lv_iload_n hx hb dL_refuses_436 rfl (lv_at hl 4 rfl) ?_
    refine lv_iconst (v := (nI 0)) hx hb dL_refuses_437 (by decide) ?_
    refine lv_iconst (v := (nI 0)) hx hb dL_refuses_438 (by decide) ?_
    refine x_cSG (As := [.ref xo, .int (nI 18), .int (nI (ρ 4)), .int (nI 0), .int (nI 0)]) (oT_gets l hfl G Y xo h0 h1 hh hb2 sl a0 a1 sv tz az ρ nx ct rr κ0 κ1 fl tn lt γ κ γ1 gg δ0 δ1 lf tk bt bw _ (hI) (oz (by omega) (by omega)) _ _) cw_L_192 [0, 1, 2, 3, 4, 5, 6, 7, 8, 9, 10] M hK hZ hN hw hl.1 rfl (by decide) ⟨by decide, by decide⟩ ⟨by show _ ≤ 70; omega, by show _ ≤ 420; omega⟩ rfl rfl (Nat.le_of_ble_eq_true rfl) dL_refuses_439 (fun r sg h_27 ha H locs hw => ?_)
    obtain ⟨rfl, rfl⟩ := h_27
    have hw : xW G A s.heap (oW Y xo h0 h1 hh hb2 sl a0 a1 sv tz az ρ nx ct rr κ0 κ1 fl tn lt γ κ γ1 gg δ0 δ1 lf tk bt bw) H locs := hw
    refine lv_ldc (v := (-9999001)) hx hb M.2.2.2.1 (M.2.2.2.2 _ mw_711) dL_refuses_442 ?_
    refine lv_icmp_ne (tgt := 512) hx hb dL_refuses_444 (by decide) (fun z => absurd rfl z) (fun _ => ?_)
    refine lv_aload_n hx hb dL_refuses_447 rfl (lv_at hl 2 rfl) ?_
    refine lv_bipush (v := (nI 19)) hx hb dL_refuses_448 (by decide) ?_
    refine lv_iconst (v := (-1)) hx hb dL_refuses_450 (by decide) ?_
    refine lv_iload_n hx hb dL_refuses_451 rfl (lv_at hl 3 rfl) ?_
    refine lv_bipush (v := (nI 9)) hx hb dL_refuses_452 (by decide) ?_
    refine x_irem M (n := x % 9) dL_refuses_454 (by omega) (by omega) (by decide) rfl ?_
    refine lv_isub hx hb dL_refuses_455 ?_
    refine lv_iconst (v := (nI 0)) hx hb dL_refuses_456 (by decide) ?_
    refine lv_iconst (v := (nI 0)) hx hb dL_refuses_457 (by decide) ?_
    refine x_cSG (As := [.ref xo, .int (nI 19), .int ((-1) - (nI (x % 9))), .int (nI 0), .int (nI 0)]) (oT_pays l hfl G Y xo h0 h1 hh hb2 sl a0 a1 sv tz az ρ nx ct rr κ0 κ1 fl tn lt γ κ γ1 gg δ0 δ1 lf tk bt bw _ (hI) (om (by omega)) _ _) cw_L_192 [0, 1, 2, 3, 4, 5, 6, 7, 8, 9, 10] M hK hZ hN hw hl.1 rfl (by decide) ⟨by decide, by decide⟩ ⟨by show _ ≤ 70; omega, by show _ ≤ 420; omega⟩ rfl rfl (Nat.le_of_ble_eq_true rfl) dL_refuses_458 (fun r sg h_28 ha H locs hw => ?_)
    obtain ⟨rfl, rfl⟩ := h_28
    have hw : xW G A s.heap (oW Y xo h0 h1 hh hb2 sl a0 a1 sv tz az ρ nx ct rr κ0 κ1 fl tn lt γ κ γ1 gg δ0 δ1 lf tk bt bw) H locs := hw
    refine lv_ldc (v := (-9999001)) hx hb M.2.2.2.1 (M.2.2.2.2 _ mw_711) dL_refuses_461 ?_
    refine lv_icmp_ne (tgt := 512) hx hb dL_refuses_463 (by decide) (fun z => absurd rfl z) (fun _ => ?_)
    refine lv_aload_n hx hb dL_refuses_466 rfl (lv_at hl 2 rfl) ?_
    refine lv_bipush (v := (nI 20)) hx hb dL_refuses_467 (by decide) ?_
    refine lv_iconst (v := (nI 3)) hx hb dL_refuses_469 (by decide) ?_
    refine lv_iconst (v := (nI 0)) hx hb dL_refuses_470 (by decide) ?_
    refine lv_iconst (v := (nI 0)) hx hb dL_refuses_471 (by decide) ?_
    refine x_cSG (As := [.ref xo, .int (nI 20), .int (nI 3), .int (nI 0), .int (nI 0)]) (oT_oneMore l hfl G Y xo h0 h1 hh hb2 sl a0 a1 sv tz az ρ nx ct rr κ0 κ1 fl tn lt γ κ γ1 gg δ0 δ1 lf tk bt bw _ (oz (by omega) (by omega)) _ _) cw_L_192 [0, 1, 2, 3, 4, 5, 6, 7, 8, 9, 10] M hK hZ hN hw hl.1 rfl (by decide) ⟨by decide, by decide⟩ ⟨by show _ ≤ 70; omega, by show _ ≤ 420; omega⟩ rfl rfl (Nat.le_of_ble_eq_true rfl) dL_refuses_472 (fun r sg h_29 ha H locs hw => ?_)
    obtain ⟨rfl, rfl⟩ := h_29
    have hw : xW G A s.heap (oW Y xo h0 h1 hh hb2 sl a0 a1 sv tz az ρ nx ct rr κ0 κ1 fl tn lt γ κ γ1 gg δ0 δ1 lf tk bt bw) H locs := hw
    refine lv_ldc (v := (-9999001)) hx hb M.2.2.2.1 (M.2.2.2.2 _ mw_711) dL_refuses_475 ?_
    refine lv_icmp_ne (tgt := 512) hx hb dL_refuses_477 (by decide) (fun z => absurd rfl z) (fun _ => ?_)
    refine lv_aload_n hx hb dL_refuses_480 rfl (lv_at hl 2 rfl) ?_
    refine lv_bipush (v := (nI 21)) hx hb dL_refuses_481 (by decide) ?_
    refine lv_iload_n hx hb dL_refuses_483 rfl (lv_at hl 4 rfl) ?_
    refine lv_iconst (v := (nI 0)) hx hb dL_refuses_484 (by decide) ?_
    refine lv_iconst (v := (nI 0)) hx hb dL_refuses_485 (by decide) ?_
    refine x_cSG (As := [.ref xo, .int (nI 21), .int (nI (ρ 4)), .int (nI 0), .int (nI 0)]) (oT_wouldAsk_1 l hfl G Y xo h0 h1 hh hb2 sl a0 a1 sv tz az ρ nx ct rr κ0 κ1 fl tn lt γ κ γ1 gg δ0 δ1 lf tk bt bw _ _ (hI) (oz (by omega) (by omega)) _) cw_L_192 [0, 1, 2, 3, 4, 5, 6, 7, 8, 9, 10] M hK hZ hN hw hl.1 rfl (by decide) ⟨by decide, by decide⟩ ⟨by show _ ≤ 70; omega, by show _ ≤ 420; omega⟩ rfl rfl (Nat.le_of_ble_eq_true rfl) dL_refuses_486 (fun r sg h_30 ha H locs hw => ?_)
    obtain ⟨rfl, rfl⟩ := h_30
    have hw : xW G A s.heap (oW Y xo h0 h1 hh hb2 sl a0 a1 sv tz az ρ nx ct rr κ0 κ1 fl tn lt γ κ γ1 gg δ0 δ1 lf tk bt bw) H locs := hw
    refine lv_ldc (v := (-9999001)) hx hb M.2.2.2.1 (M.2.2.2.2 _ mw_711) dL_refuses_489 ?_
    refine lv_icmp_ne (tgt := 512) hx hb dL_refuses_491 (by decide) (fun z => absurd rfl z) (fun _ => ?_)
    refine lv_aload_n hx hb dL_refuses_494 rfl (lv_at hl 2 rfl) ?_
    refine lv_bipush (v := (nI 22)) hx hb dL_refuses_495 (by decide) ?_
    refine lv_iconst (v := (-1)) hx hb dL_refuses_497 (by decide) ?_
    refine lv_iconst (v := (nI 0)) hx hb dL_refuses_498 (by decide) ?_
    refine lv_iconst (v := (nI 0)) hx hb dL_refuses_499 (by decide) ?_
    refine x_cSG (As := [.ref xo, .int (nI 22), .int (-1), .int (nI 0), .int (nI 0)]) (oT_endPrice l hfl G Y xo h0 h1 hh hb2 sl a0 a1 sv tz az ρ nx ct rr κ0 κ1 fl tn lt γ κ γ1 gg δ0 δ1 lf tk bt bw _ (om1) _ _) cw_L_192 [0, 1, 2, 3, 4, 5, 6, 7, 8, 9, 10] M hK hZ hN hw hl.1 rfl (by decide) ⟨by decide, by decide⟩ ⟨by show _ ≤ 70; omega, by show _ ≤ 420; omega⟩ rfl rfl (Nat.le_of_ble_eq_true rfl) dL_refuses_500 (fun r sg h_31 ha H locs hw => ?_)
    obtain ⟨rfl, rfl⟩ := h_31
    have hw : xW G A s.heap (oW Y xo h0 h1 hh hb2 sl a0 a1 sv tz az ρ nx ct rr κ0 κ1 fl tn lt γ κ γ1 gg δ0 δ1 lf tk bt bw) H locs := hw
    refine lv_ldc (v := (-9999001)) hx hb M.2.2.2.1 (M.2.2.2.2 _ mw_711) dL_refuses_503 ?_
    refine lv_icmp_ne (tgt := 512) hx hb dL_refuses_505 (by decide) (fun z => absurd rfl z) (fun _ => ?_)
    refine lv_iconst (v := (nI 1)) hx hb dL_refuses_508 (by decide) ?_
    refine lv_goto (tgt := 513) hx hb dL_refuses_509 (by decide) ?_
    refine lv_istore (lv' := [(5, .int (nI 1)), (4, .int (nI (ρ 1))), (0, .ref xo), (1, .int (nI x)), (2, .int (nI (ρ 4))), (3, .int (nI (ρ 0)))]) hx hb dL_refuses_513 hl (by decide) rfl (fun ls hl => ?_)
    have L1069 : ∀ (H : Heap) (locs : List Loc) (ls : Array Slot), xW G A s.heap (oW Y xo h0 h1 hh hb2 sl a0 a1 sv tz az ρ nx ct rr κ0 κ1 fl tn lt γ κ γ1 gg δ0 δ1 lf tk bt bw) H locs → lv_has ls 8 [(0, .ref xo), (1, .int (nI x)), (2, .int (nI (ρ 4))), (3, .int (nI (ρ 0))), (4, .int (nI (ρ 1))), (5, .int (nI 1))] → W p l e (xRmG 40 1500 70 420) s m args below meth c H locs 64 384 Q (F0 m 1069 ls []) := by
      intro H locs ls hw hl
      refine lv_iconst (v := (nI 1)) hx hb dL_refuses_1069 (by decide) ?_
      refine lv_goto (tgt := 1074) hx hb dL_refuses_1070 (by decide) ?_
      exact hret _ _ _ (nI 1) _ _ _ _ (by show _ ≤ 70; omega) (by show _ ≤ 420; omega) dL_refuses_1074 hw rfl rfl ⟨rfl, rfl⟩
    have L932 : ∀ (H : Heap) (locs : List Loc) (ls : Array Slot), xW G A s.heap (oW Y xo h0 h1 hh hb2 sl a0 a1 sv tz az ρ nx ct rr κ0 κ1 fl tn lt γ κ γ1 gg δ0 δ1 lf tk bt bw) H locs → lv_has ls 8 [(0, .ref xo), (1, .int (nI x)), (2, .int (nI (ρ 4))), (3, .int (nI (ρ 0))), (4, .int (nI (ρ 1))), (5, .int (nI 1))] → W p l e (xRmG 40 1500 70 420) s m args below meth c H locs 55 330 Q (F0 m 932 ls []) := by
      intro H locs ls hw hl
      refine lv_iconst (v := (nI 1)) hx hb dL_refuses_932 (by decide) ?_
      refine lv_goto (tgt := 937) hx hb dL_refuses_933 (by decide) ?_
      refine lv_istore (lv' := [(5, .int (nI 1)), (0, .ref xo), (1, .int (nI x)), (2, .int (nI (ρ 4))), (3, .int (nI (ρ 0))), (4, .int (nI (ρ 1)))]) hx hb dL_refuses_937 hl (by decide) rfl (fun ls hl => ?_)
      refine lv_iload hx hb dL_refuses_939 (lv_at hl 0 rfl) ?_
      refine x_zeq M (tgt := 1073) (by decide) dL_refuses_941 (by decide) (fun c_32 => by exfalso; exact absurd c_32 (by decide)) (fun c_32 => ?_)
      refine lv_aload_n hx hb dL_refuses_944 rfl (lv_at hl 1 rfl) ?_
      refine lv_bipush (v := (nI 23)) hx hb dL_refuses_945 (by decide) ?_
      refine lv_iconst (v := (nI 2)) hx hb dL_refuses_947 (by decide) ?_
      refine lv_iconst (v := (nI 0)) hx hb dL_refuses_948 (by decide) ?_
      refine lv_iconst (v := (nI 0)) hx hb dL_refuses_949 (by decide) ?_
      refine x_cSG (As := [.ref xo, .int (nI 23), .int (nI 2), .int (nI 0), .int (nI 0)]) (oT_save l hfl G Y xo h0 h1 hh hb2 sl a0 a1 sv tz az ρ nx ct rr κ0 κ1 fl tn lt γ κ γ1 gg δ0 δ1 lf tk bt bw _ (oz (by omega) (by omega)) _ _) cw_L_192 [0, 1, 2, 3, 4, 5, 6, 7, 8, 9, 10] M hK hZ hN hw hl.1 rfl (by decide) ⟨by decide, by decide⟩ ⟨by show _ ≤ 70; omega, by show _ ≤ 420; omega⟩ rfl rfl (Nat.le_of_ble_eq_true rfl) dL_refuses_950 (fun r sg h_33 ha H locs hw => ?_)
      obtain ⟨rfl, rfl⟩ := h_33
      have hw : xW G A s.heap (oW Y xo h0 h1 hh hb2 sl a0 a1 sv tz az ρ nx ct rr κ0 κ1 fl tn lt γ κ γ1 gg δ0 δ1 lf tk bt bw) H locs := hw
      refine lv_ldc (v := (-9999001)) hx hb M.2.2.2.1 (M.2.2.2.2 _ mw_711) dL_refuses_953 ?_
      refine lv_icmp_ne (tgt := 1073) hx hb dL_refuses_955 (by decide) (fun z => absurd rfl z) (fun _ => ?_)
      refine lv_aload_n hx hb dL_refuses_958 rfl (lv_at hl 1 rfl) ?_
      refine lv_bipush (v := (nI 24)) hx hb dL_refuses_959 (by decide) ?_
      refine lv_iconst (v := (-1)) hx hb dL_refuses_961 (by decide) ?_
      refine lv_iconst (v := (nI 0)) hx hb dL_refuses_962 (by decide) ?_
      refine lv_iconst (v := (nI 0)) hx hb dL_refuses_963 (by decide) ?_
      refine x_cSG (As := [.ref xo, .int (nI 24), .int (-1), .int (nI 0), .int (nI 0)]) (oT_restore l hfl G Y xo h0 h1 hh hb2 sl a0 a1 sv tz az ρ nx ct rr κ0 κ1 fl tn lt γ κ γ1 gg δ0 δ1 lf tk bt bw _ (om1) _ _) cw_L_192 [0, 1, 2, 3, 4, 5, 6, 7, 8, 9, 10] M hK hZ hN hw hl.1 rfl (by decide) ⟨by decide, by decide⟩ ⟨by show _ ≤ 70; omega, by show _ ≤ 420; omega⟩ rfl rfl (Nat.le_of_ble_eq_true rfl) dL_refuses_964 (fun r sg h_34 ha H locs hw => ?_)
      obtain ⟨rfl, rfl⟩ := h_34
      have hw : xW G A s.heap (oW Y xo h0 h1 hh hb2 sl a0 a1 sv tz az ρ nx ct rr κ0 κ1 fl tn lt γ κ γ1 gg δ0 δ1 lf tk bt bw) H locs := hw
      refine lv_ldc (v := (-9999001)) hx hb M.2.2.2.1 (M.2.2.2.2 _ mw_711) dL_refuses_967 ?_
      refine lv_icmp_ne (tgt := 1073) hx hb dL_refuses_969 (by decide) (fun z => absurd rfl z) (fun _ => ?_)
      refine lv_aload_n hx hb dL_refuses_972 rfl (lv_at hl 1 rfl) ?_
      refine lv_iconst (v := (nI 0)) hx hb dL_refuses_973 (by decide) ?_
      refine lv_sipush (v := (nI 256)) hx hb dL_refuses_974 (by decide) ?_
      refine lv_iload_n hx hb dL_refuses_977 rfl (lv_at hl 2 rfl) ?_
      refine lv_bipush (v := (nI 9)) hx hb dL_refuses_978 (by decide) ?_
      refine x_irem M (n := x % 9) dL_refuses_980 (by omega) (by omega) (by decide) rfl ?_
      refine x_iadd M (n := 256 + (x % 9)) dL_refuses_981 rfl ?_
      refine lv_iconst (v := (nI 0)) hx hb dL_refuses_982 (by decide) ?_
      refine lv_iconst (v := (nI 0)) hx hb dL_refuses_983 (by decide) ?_
      refine x_cSG (As := [.ref xo, .int (nI 0), .int (nI (256 + (x % 9))), .int (nI 0), .int (nI 0)]) (oT_append_1 l hfl G Y xo h0 h1 hh hb2 sl a0 a1 sv tz az ρ nx ct rr κ0 κ1 fl tn lt γ κ γ1 gg δ0 δ1 lf tk bt bw _ (hO.hn) (hO.hlt) (oz (by omega) (by omega)) _ _) cw_L_192 [0, 1, 2, 3, 4, 5, 6, 7, 8, 9, 10] M hK hZ hN hw hl.1 rfl (by decide) ⟨by decide, by decide⟩ ⟨by show _ ≤ 70; omega, by show _ ≤ 420; omega⟩ rfl rfl (Nat.le_of_ble_eq_true rfl) dL_refuses_984 (fun r sg h_35 ha H locs hw => ?_)
      obtain ⟨rfl, rfl⟩ := h_35
      have hw : xW G A s.heap (oW Y xo h0 h1 hh hb2 sl a0 a1 sv tz az ρ nx ct rr κ0 κ1 fl tn lt γ κ γ1 gg δ0 δ1 lf tk bt bw) H locs := hw
      refine lv_ldc (v := (-9999002)) hx hb M.2.2.2.1 (M.2.2.2.2 _ mw_387) dL_refuses_987 ?_
      refine lv_icmp_ne (tgt := 1073) hx hb dL_refuses_989 (by decide) (fun z => absurd rfl z) (fun _ => ?_)
      refine lv_aload_n hx hb dL_refuses_992 rfl (lv_at hl 1 rfl) ?_
      refine lv_iconst (v := (nI 4)) hx hb dL_refuses_993 (by decide) ?_
      refine lv_lconst (v := 0) hx hb dL_refuses_994 (by decide) ?_
      refine x_cSL2 (As := [.ref xo, .int (nI 4), .long 0]) (oT_runScript_1 l hfl G Y xo h0 h1 hh hb2 sl a0 a1 sv tz az ρ nx ct rr κ0 κ1 fl tn lt γ κ γ1 gg δ0 δ1 lf tk bt bw _ _ (oz (by omega) (by omega))) cl_tryScript [0, 1, 2, 3, 4, 5, 6, 7, 8, 9, 10] M hK hZ hN hw hl.1 rfl (by decide) ⟨by decide, by decide⟩ ⟨by show _ ≤ 70; omega, by show _ ≤ 420; omega⟩ rfl rfl (Nat.le_of_ble_eq_true rfl) dL_refuses_995 (fun r sg h_36 ha H locs hw => ?_)
      obtain ⟨rfl, rfl⟩ := h_36
      have hw : xW G A s.heap (oW Y xo h0 h1 hh hb2 sl a0 a1 sv tz az ρ nx ct rr κ0 κ1 fl tn lt γ κ γ1 gg δ0 δ1 lf tk bt bw) H locs := hw
      refine lv_ldc (v := (-9999002)) hx hb M.2.2.2.1 (M.2.2.2.2 _ mw_387) dL_refuses_998 ?_
      refine lv_icmp_ne (tgt := 1073) hx hb dL_refuses_1000 (by decide) (fun z => absurd rfl z) (fun _ => ?_)
      refine lv_aload_n hx hb dL_refuses_1003 rfl (lv_at hl 1 rfl) ?_
      refine lv_iconst (v := (nI 1)) hx hb dL_refuses_1004 (by decide) ?_
      refine lv_ldc2 (v := 100000) hx hb M.2.2.2.1 (M.2.2.2.2 _ mw_981) dL_refuses_1005 ?_
      refine lv_iload_n hx hb dL_refuses_1008 rfl (lv_at hl 2 rfl) ?_
      refine lv_i2l (v := (nI x).toInt64) hx hb dL_refuses_1009 rfl ?_
      refine lv_ladd hx hb dL_refuses_1010 ?_
      refine x_cSL2 (As := [.ref xo, .int (nI 1), .long (100000 + (nI x).toInt64)]) (oT_runScript_2 l hfl G Y xo h0 h1 hh hb2 sl a0 a1 sv tz az ρ nx ct rr κ0 κ1 fl tn lt γ κ γ1 gg δ0 δ1 lf tk bt bw _ _ (by decide) (sc1_out (by omega))) cl_tryScript [0, 1, 2, 3, 4, 5, 6, 7, 8, 9, 10] M hK hZ hN hw hl.1 rfl (by decide) ⟨by decide, by decide⟩ ⟨by show _ ≤ 70; omega, by show _ ≤ 420; omega⟩ rfl rfl (Nat.le_of_ble_eq_true rfl) dL_refuses_1011 (fun r sg h_37 ha H locs hw => ?_)
      obtain ⟨rfl, rfl⟩ := h_37
      have hw : xW G A s.heap (oW Y xo h0 h1 hh hb2 sl a0 a1 sv tz az ρ nx ct rr κ0 κ1 fl tn lt γ κ γ1 gg δ0 δ1 lf tk bt bw) H locs := hw
      refine lv_ldc (v := (-9999002)) hx hb M.2.2.2.1 (M.2.2.2.2 _ mw_387) dL_refuses_1014 ?_
      refine lv_icmp_ne (tgt := 1073) hx hb dL_refuses_1016 (by decide) (fun z => absurd rfl z) (fun _ => ?_)
      refine lv_aload_n hx hb dL_refuses_1019 rfl (lv_at hl 1 rfl) ?_
      refine lv_iconst (v := (nI 2)) hx hb dL_refuses_1020 (by decide) ?_
      refine lv_ldc2 (v := (-1)) hx hb M.2.2.2.1 (M.2.2.2.2 _ mw_982) dL_refuses_1021 ?_
      refine lv_iload_n hx hb dL_refuses_1024 rfl (lv_at hl 2 rfl) ?_
      refine lv_i2l (v := (nI x).toInt64) hx hb dL_refuses_1025 rfl ?_
      refine lv_lsub hx hb dL_refuses_1026 ?_
      refine x_cSL2 (As := [.ref xo, .int (nI 2), .long ((-1) - ((nI x).toInt64))]) (oT_runScript_2 l hfl G Y xo h0 h1 hh hb2 sl a0 a1 sv tz az ρ nx ct rr κ0 κ1 fl tn lt γ κ γ1 gg δ0 δ1 lf tk bt bw _ _ (by decide) (sc2_out (by omega))) cl_tryScript [0, 1, 2, 3, 4, 5, 6, 7, 8, 9, 10] M hK hZ hN hw hl.1 rfl (by decide) ⟨by decide, by decide⟩ ⟨by show _ ≤ 70; omega, by show _ ≤ 420; omega⟩ rfl rfl (Nat.le_of_ble_eq_true rfl) dL_refuses_1027 (fun r sg h_38 ha H locs hw => ?_)
      obtain ⟨rfl, rfl⟩ := h_38
      have hw : xW G A s.heap (oW Y xo h0 h1 hh hb2 sl a0 a1 sv tz az ρ nx ct rr κ0 κ1 fl tn lt γ κ γ1 gg δ0 δ1 lf tk bt bw) H locs := hw
      refine lv_ldc (v := (-9999002)) hx hb M.2.2.2.1 (M.2.2.2.2 _ mw_387) dL_refuses_1030 ?_
      refine lv_icmp_ne (tgt := 1073) hx hb dL_refuses_1032 (by decide) (fun z => absurd rfl z) (fun _ => ?_)
      refine lv_aload_n hx hb dL_refuses_1035 rfl (lv_at hl 1 rfl) ?_
      refine lv_iload_n hx hb dL_refuses_1036 rfl (lv_at hl 2 rfl) ?_
      refine lv_i2l (v := (nI x).toInt64) hx hb dL_refuses_1037 rfl ?_
      refine lv_bipush (v := (nI 100)) hx hb dL_refuses_1038 (by decide) ?_
      refine x_cSL2 (As := [.ref xo, .long ((nI x).toInt64), .int (nI 100)]) (oT_simulate l hfl G Y xo h0 h1 hh hb2 sl a0 a1 sv tz az ρ nx ct rr κ0 κ1 fl tn lt γ κ γ1 gg δ0 δ1 lf tk bt bw _ _ (oz (by omega) (by omega))) cl_trySimulate [0, 1, 2, 3, 4, 5, 6, 7, 8, 9, 10] M hK hZ hN hw hl.1 rfl (by decide) ⟨by decide, by decide⟩ ⟨by show _ ≤ 70; omega, by show _ ≤ 420; omega⟩ rfl rfl (Nat.le_of_ble_eq_true rfl) dL_refuses_1040 (fun r sg h_39 ha H locs hw => ?_)
      obtain ⟨rfl, rfl⟩ := h_39
      have hw : xW G A s.heap (oW Y xo h0 h1 hh hb2 sl a0 a1 sv tz az ρ nx ct rr κ0 κ1 fl tn lt γ κ γ1 gg δ0 δ1 lf tk bt bw) H locs := hw
      refine lv_ldc (v := (-9999002)) hx hb M.2.2.2.1 (M.2.2.2.2 _ mw_387) dL_refuses_1043 ?_
      refine lv_icmp_ne (tgt := 1073) hx hb dL_refuses_1045 (by decide) (fun z => absurd rfl z) (fun _ => ?_)
      refine lv_aload_n hx hb dL_refuses_1048 rfl (lv_at hl 1 rfl) ?_
      refine x_cVI (As := []) (k_X5_errorPosition l G Y xo h0 h1 hh sl sv tz az tn lt hO.hn hO.hlt) cw_L_214 [0, 9] 0 0 M hK hZ hw hl.1 rfl (by decide) rfl rfl rfl ⟨by decide, by decide⟩ ⟨by show _ ≤ 70; omega, by show _ ≤ 420; omega⟩ rfl rfl (Nat.le_of_ble_eq_true rfl) dL_refuses_1049 (fun r sg h_40 H locs hw => ?_)
      obtain ⟨rfl, rfl⟩ := h_40
      have hw : xW G A s.heap (oW Y xo h0 h1 hh hb2 sl a0 a1 sv tz az ρ nx ct rr κ0 κ1 fl tn lt γ κ γ1 gg δ0 δ1 lf tk bt bw) H locs := hw
      refine lv_iconst (v := (-1)) hx hb dL_refuses_1052 (by decide) ?_
      refine lv_icmp_eq (tgt := 1069) hx hb dL_refuses_1053 (by decide) (fun _ => ?_) (fun c_err => ?_)
      · refine W_widen (k := 64) (n := 384) (Nat.le_of_ble_eq_true rfl) (Nat.le_of_ble_eq_true rfl) ?_
        exact L1069 _ _ _ hw (lv_sub hl [1, 2, 3, 4, 5, 0] rfl)
      refine lv_aload_n hx hb dL_refuses_1056 rfl (lv_at hl 1 rfl) ?_
      refine lv_iconst (v := (nI 1)) hx hb dL_refuses_1057 (by decide) ?_
      refine lv_iconst (v := (nI 0)) hx hb dL_refuses_1058 (by decide) ?_
      refine lv_iconst (v := (nI 0)) hx hb dL_refuses_1059 (by decide) ?_
      refine lv_iconst (v := (nI 0)) hx hb dL_refuses_1060 (by decide) ?_
      refine x_cSG (As := [.ref xo, .int (nI 1), .int (nI 0), .int (nI 0), .int (nI 0)]) (oT_load l hfl G Y xo h0 h1 hh hb2 sl a0 a1 sv tz az ρ nx ct rr κ0 κ1 fl tn lt γ κ γ1 gg δ0 δ1 lf tk bt bw (hO.hn) (hO.hlt) (fun z => c_err (by rw [z]; exact mwN_0)) _ _ _) cw_L_192 [0, 1, 2, 3, 4, 5, 6, 7, 8, 9, 10] M hK hZ hN hw hl.1 rfl (by decide) ⟨by decide, by decide⟩ ⟨by show _ ≤ 70; omega, by show _ ≤ 420; omega⟩ rfl rfl (Nat.le_of_ble_eq_true rfl) dL_refuses_1061 (fun r sg h_41 ha H locs hw => ?_)
      obtain ⟨rfl, rfl⟩ := h_41
      have hw : xW G A s.heap (oW Y xo h0 h1 hh hb2 sl a0 a1 sv tz az ρ nx ct rr κ0 κ1 fl tn lt γ κ γ1 gg δ0 δ1 lf tk bt bw) H locs := hw
      refine lv_ldc (v := (-9999003)) hx hb M.2.2.2.1 (M.2.2.2.2 _ mw_483) dL_refuses_1064 ?_
      refine lv_icmp_ne (tgt := 1073) hx hb dL_refuses_1066 (by decide) (fun z => absurd rfl z) (fun _ => ?_)
      refine W_widen (k := 64) (n := 384) (Nat.le_of_ble_eq_true rfl) (Nat.le_of_ble_eq_true rfl) ?_
      exact L1069 _ _ _ hw (lv_sub hl [1, 2, 3, 4, 5, 0] rfl)
    have L912 : ∀ (H : Heap) (locs : List Loc) (ls : Array Slot), xW G A s.heap (oW Y xo h0 h1 hh hb2 sl a0 a1 sv tz az ρ nx ct rr κ0 κ1 fl tn lt γ κ γ1 gg δ0 δ1 lf tk bt bw) H locs → lv_has ls 8 [(0, .ref xo), (1, .int (nI x)), (2, .int (nI (ρ 4))), (3, .int (nI (ρ 0))), (4, .int (nI (ρ 1))), (5, .int (nI 1))] → W p l e (xRmG 40 1500 70 420) s m args below meth c H locs 54 324 Q (F0 m 912 ls []) := by
      intro H locs ls hw hl
      refine lv_iload_n hx hb dL_refuses_912 rfl (lv_at hl 2 rfl) ?_
      refine lv_bipush (v := (nI 6)) hx hb dL_refuses_913 (by decide) ?_
      refine x_clt M (tgt := 932) (by omega) (by decide) dL_refuses_915 (by decide) (fun c_42 => ?_) (fun c_42 => ?_)
      · refine W_widen (k := 55) (n := 330) (Nat.le_of_ble_eq_true rfl) (Nat.le_of_ble_eq_true rfl) ?_
        exact L932 _ _ _ hw (lv_sub hl [0, 1, 2, 3, 4, 5] rfl)
      refine lv_aload_n hx hb dL_refuses_918 rfl (lv_at hl 0 rfl) ?_
      refine lv_bipush (v := (nI 10)) hx hb dL_refuses_919 (by decide) ?_
      refine lv_iconst (v := (nI 1)) hx hb dL_refuses_921 (by decide) ?_
      refine lv_iconst (v := (nI 1)) hx hb dL_refuses_922 (by decide) ?_
      refine lv_iconst (v := (nI 0)) hx hb dL_refuses_923 (by decide) ?_
      refine x_cSG (As := [.ref xo, .int (nI 10), .int (nI 1), .int (nI 1), .int (nI 0)]) (oT_join_3 l hfl G Y xo h0 h1 hh hb2 sl a0 a1 sv tz az ρ nx ct rr κ0 κ1 fl tn lt γ κ γ1 gg δ0 δ1 lf tk bt bw _ _ (hI) (by unfold whyJoin; rw [if_neg (iz (by omega) (by omega) (by omega)), if_neg (iz (by omega) (by omega) (by omega)), if_pos (by omega)]) _) cw_L_192 [0, 1, 2, 3, 4, 5, 6, 7, 8, 9, 10] M hK hZ hN hw hl.1 rfl (by decide) ⟨by decide, by decide⟩ ⟨by show _ ≤ 70; omega, by show _ ≤ 420; omega⟩ rfl rfl (Nat.le_of_ble_eq_true rfl) dL_refuses_924 (fun r sg h_43 ha H locs hw => ?_)
      obtain ⟨rfl, rfl⟩ := h_43
      have hw : xW G A s.heap (oW Y xo h0 h1 hh hb2 sl a0 a1 sv tz az ρ nx ct rr κ0 κ1 fl tn lt γ κ γ1 gg δ0 δ1 lf tk bt bw) H locs := hw
      refine lv_ldc (v := (-9999003)) hx hb M.2.2.2.1 (M.2.2.2.2 _ mw_483) dL_refuses_927 ?_
      refine lv_icmp_ne (tgt := 936) hx hb dL_refuses_929 (by decide) (fun z => absurd rfl z) (fun _ => ?_)
      refine W_widen (k := 55) (n := 330) (Nat.le_of_ble_eq_true rfl) (Nat.le_of_ble_eq_true rfl) ?_
      exact L932 _ _ _ hw (lv_sub hl [0, 1, 2, 3, 4, 5] rfl)
    have L893 : ∀ (H : Heap) (locs : List Loc) (ls : Array Slot), xW G A s.heap (oW Y xo h0 h1 hh hb2 sl a0 a1 sv tz az ρ nx ct rr κ0 κ1 fl tn lt γ κ γ1 gg δ0 δ1 lf tk bt bw) H locs → lv_has ls 8 [(0, .ref xo), (1, .int (nI x)), (2, .int (nI (ρ 4))), (3, .int (nI (ρ 0))), (4, .int (nI (ρ 1))), (5, .int (nI 1))] → W p l e (xRmG 40 1500 70 420) s m args below meth c H locs 53 318 Q (F0 m 893 ls []) := by
      intro H locs ls hw hl
      refine lv_iload hx hb dL_refuses_893 (lv_at hl 4 rfl) ?_
      refine x_zeq M (tgt := 912) (by omega) dL_refuses_895 (by decide) (fun c_44 => ?_) (fun c_44 => ?_)
      · refine W_widen (k := 54) (n := 324) (Nat.le_of_ble_eq_true rfl) (Nat.le_of_ble_eq_true rfl) ?_
        exact L912 _ _ _ hw (lv_sub hl [0, 1, 2, 3, 4, 5] rfl)
      refine lv_aload_n hx hb dL_refuses_898 rfl (lv_at hl 0 rfl) ?_
      refine lv_bipush (v := (nI 14)) hx hb dL_refuses_899 (by decide) ?_
      refine lv_iconst (v := (nI 0)) hx hb dL_refuses_901 (by decide) ?_
      refine lv_iconst (v := (nI 0)) hx hb dL_refuses_902 (by decide) ?_
      refine lv_iconst (v := (nI 0)) hx hb dL_refuses_903 (by decide) ?_
      refine x_cSG (As := [.ref xo, .int (nI 14), .int (nI 0), .int (nI 0), .int (nI 0)]) (oT_close_3 l hfl G Y xo h0 h1 hh hb2 sl a0 a1 sv tz az ρ nx ct rr κ0 κ1 fl tn lt γ κ γ1 gg δ0 δ1 lf tk bt bw (hI) (by unfold whyClose; rw [if_neg (by omega)]) _ _ _) cw_L_192 [0, 1, 2, 3, 4, 5, 6, 7, 8, 9, 10] M hK hZ hN hw hl.1 rfl (by decide) ⟨by decide, by decide⟩ ⟨by show _ ≤ 70; omega, by show _ ≤ 420; omega⟩ rfl rfl (Nat.le_of_ble_eq_true rfl) dL_refuses_904 (fun r sg h_45 ha H locs hw => ?_)
      obtain ⟨rfl, rfl⟩ := h_45
      have hw : xW G A s.heap (oW Y xo h0 h1 hh hb2 sl a0 a1 sv tz az ρ nx ct rr κ0 κ1 fl tn lt γ κ γ1 gg δ0 δ1 lf tk bt bw) H locs := hw
      refine lv_ldc (v := (-9999003)) hx hb M.2.2.2.1 (M.2.2.2.2 _ mw_483) dL_refuses_907 ?_
      refine lv_icmp_ne (tgt := 936) hx hb dL_refuses_909 (by decide) (fun z => absurd rfl z) (fun _ => ?_)
      refine W_widen (k := 54) (n := 324) (Nat.le_of_ble_eq_true rfl) (Nat.le_of_ble_eq_true rfl) ?_
      exact L912 _ _ _ hw (lv_sub hl [0, 1, 2, 3, 4, 5] rfl)
    have L838 : ∀ (H : Heap) (locs : List Loc) (ls : Array Slot), xW G A s.heap (oW Y xo h0 h1 hh hb2 sl a0 a1 sv tz az ρ nx ct rr κ0 κ1 fl tn lt γ κ γ1 gg δ0 δ1 lf tk bt bw) H locs → lv_has ls 8 [(0, .ref xo), (1, .int (nI x)), (2, .int (nI (ρ 4))), (3, .int (nI (ρ 0))), (4, .int (nI (ρ 1))), (5, .int (nI 1))] → W p l e (xRmG 40 1500 70 420) s m args below meth c H locs 50 300 Q (F0 m 838 ls []) := by
      intro H locs ls hw hl
      refine lv_iload hx hb dL_refuses_838 (lv_at hl 5 rfl) ?_
      refine x_zeq M (tgt := 936) (by decide) dL_refuses_840 (by decide) (fun c_46 => by exfalso; exact absurd c_46 (by decide)) (fun c_46 => ?_)
      refine lv_iload_n hx hb dL_refuses_843 rfl (lv_at hl 3 rfl) ?_
      refine x_zeq M (tgt := 893) (by omega) dL_refuses_844 (by decide) (fun c_47 => ?_) (fun c_47 => ?_)
      · refine W_widen (k := 53) (n := 318) (Nat.le_of_ble_eq_true rfl) (Nat.le_of_ble_eq_true rfl) ?_
        exact L893 _ _ _ hw (lv_sub hl [0, 1, 2, 3, 4, 5] rfl)
      refine lv_aload_n hx hb dL_refuses_847 rfl (lv_at hl 0 rfl) ?_
      refine lv_bipush (v := (nI 10)) hx hb dL_refuses_848 (by decide) ?_
      refine lv_iconst (v := (nI 1)) hx hb dL_refuses_850 (by decide) ?_
      refine lv_iconst (v := (nI 1)) hx hb dL_refuses_851 (by decide) ?_
      refine lv_iconst (v := (nI 0)) hx hb dL_refuses_852 (by decide) ?_
      refine x_cSG (As := [.ref xo, .int (nI 10), .int (nI 1), .int (nI 1), .int (nI 0)]) (oT_join_3 l hfl G Y xo h0 h1 hh hb2 sl a0 a1 sv tz az ρ nx ct rr κ0 κ1 fl tn lt γ κ γ1 gg δ0 δ1 lf tk bt bw _ _ (hI) (by unfold whyJoin; rw [if_neg (iz (by omega) (by omega) (by omega)), if_neg (iz (by omega) (by omega) (by omega)), if_pos (start_t (by omega) (by omega))]; split <;> rfl) _) cw_L_192 [0, 1, 2, 3, 4, 5, 6, 7, 8, 9, 10] M hK hZ hN hw hl.1 rfl (by decide) ⟨by decide, by decide⟩ ⟨by show _ ≤ 70; omega, by show _ ≤ 420; omega⟩ rfl rfl (Nat.le_of_ble_eq_true rfl) dL_refuses_853 (fun r sg h_48 ha H locs hw => ?_)
      obtain ⟨rfl, rfl⟩ := h_48
      have hw : xW G A s.heap (oW Y xo h0 h1 hh hb2 sl a0 a1 sv tz az ρ nx ct rr κ0 κ1 fl tn lt γ κ γ1 gg δ0 δ1 lf tk bt bw) H locs := hw
      refine lv_ldc (v := (-9999003)) hx hb M.2.2.2.1 (M.2.2.2.2 _ mw_483) dL_refuses_856 ?_
      refine lv_icmp_ne (tgt := 936) hx hb dL_refuses_858 (by decide) (fun z => absurd rfl z) (fun _ => ?_)
      refine lv_aload_n hx hb dL_refuses_861 rfl (lv_at hl 0 rfl) ?_
      refine lv_bipush (v := (nI 9)) hx hb dL_refuses_862 (by decide) ?_
      refine lv_iload_n hx hb dL_refuses_864 rfl (lv_at hl 1 rfl) ?_
      refine lv_iconst (v := (nI 3)) hx hb dL_refuses_865 (by decide) ?_
      refine x_irem M (n := x % 3) dL_refuses_866 (by omega) (by omega) (by decide) rfl ?_
      refine lv_iconst (v := (nI 5)) hx hb dL_refuses_867 (by decide) ?_
      refine lv_iconst (v := (nI 0)) hx hb dL_refuses_868 (by decide) ?_
      refine x_cSG (As := [.ref xo, .int (nI 9), .int (nI (x % 3)), .int (nI 5), .int (nI 0)]) (oT_price_3 l hfl G Y xo h0 h1 hh hb2 sl a0 a1 sv tz az ρ nx ct rr κ0 κ1 fl tn lt γ κ γ1 gg δ0 δ1 lf tk bt bw _ _ (hI) (by unfold whyPrice; rw [if_neg (iz (by omega) (by omega) (by omega)), if_neg (iz (by omega) (by omega) (by omega)), if_pos (start_t (by omega) (by omega))]) _) cw_L_192 [0, 1, 2, 3, 4, 5, 6, 7, 8, 9, 10] M hK hZ hN hw hl.1 rfl (by decide) ⟨by decide, by decide⟩ ⟨by show _ ≤ 70; omega, by show _ ≤ 420; omega⟩ rfl rfl (Nat.le_of_ble_eq_true rfl) dL_refuses_869 (fun r sg h_49 ha H locs hw => ?_)
      obtain ⟨rfl, rfl⟩ := h_49
      have hw : xW G A s.heap (oW Y xo h0 h1 hh hb2 sl a0 a1 sv tz az ρ nx ct rr κ0 κ1 fl tn lt γ κ γ1 gg δ0 δ1 lf tk bt bw) H locs := hw
      refine lv_ldc (v := (-9999003)) hx hb M.2.2.2.1 (M.2.2.2.2 _ mw_483) dL_refuses_872 ?_
      refine lv_icmp_ne (tgt := 936) hx hb dL_refuses_874 (by decide) (fun z => absurd rfl z) (fun _ => ?_)
      refine lv_aload_n hx hb dL_refuses_877 rfl (lv_at hl 0 rfl) ?_
      refine lv_bipush (v := (nI 8)) hx hb dL_refuses_878 (by decide) ?_
      refine lv_iload_n hx hb dL_refuses_880 rfl (lv_at hl 1 rfl) ?_
      refine lv_iconst (v := (nI 3)) hx hb dL_refuses_881 (by decide) ?_
      refine x_irem M (n := x % 3) dL_refuses_882 (by omega) (by omega) (by decide) rfl ?_
      refine lv_iconst (v := (nI 1)) hx hb dL_refuses_883 (by decide) ?_
      refine lv_iconst (v := (nI 1)) hx hb dL_refuses_884 (by decide) ?_
      refine x_cSG (As := [.ref xo, .int (nI 8), .int (nI (x % 3)), .int (nI 1), .int (nI 1)]) (oT_offer_3 l hfl G Y xo h0 h1 hh hb2 sl a0 a1 sv tz az ρ nx ct rr κ0 κ1 fl tn lt γ κ γ1 gg δ0 δ1 lf tk bt bw _ _ _ (hI) (by unfold whyOffer; rw [if_neg (iz (by omega) (by omega) (by omega)), if_neg (iz (by omega) (by omega) (by omega)), if_neg (iz (by omega) (by omega) (by omega)), if_pos (start_t (by omega) (by omega))])) cw_L_192 [0, 1, 2, 3, 4, 5, 6, 7, 8, 9, 10] M hK hZ hN hw hl.1 rfl (by decide) ⟨by decide, by decide⟩ ⟨by show _ ≤ 70; omega, by show _ ≤ 420; omega⟩ rfl rfl (Nat.le_of_ble_eq_true rfl) dL_refuses_885 (fun r sg h_50 ha H locs hw => ?_)
      obtain ⟨rfl, rfl⟩ := h_50
      have hw : xW G A s.heap (oW Y xo h0 h1 hh hb2 sl a0 a1 sv tz az ρ nx ct rr κ0 κ1 fl tn lt γ κ γ1 gg δ0 δ1 lf tk bt bw) H locs := hw
      refine lv_ldc (v := (-9999003)) hx hb M.2.2.2.1 (M.2.2.2.2 _ mw_483) dL_refuses_888 ?_
      refine lv_icmp_ne (tgt := 936) hx hb dL_refuses_890 (by decide) (fun z => absurd rfl z) (fun _ => ?_)
      refine W_widen (k := 53) (n := 318) (Nat.le_of_ble_eq_true rfl) (Nat.le_of_ble_eq_true rfl) ?_
      exact L893 _ _ _ hw (lv_sub hl [0, 1, 2, 3, 4, 5] rfl)
    refine lv_iload_n hx hb dL_refuses_515 rfl (lv_at hl 4 rfl) ?_
    refine x_zle M (tgt := 838) (by omega) dL_refuses_516 (by decide) (fun c_n => ?_) (fun c_n => ?_)
    · refine W_widen (k := 50) (n := 300) (Nat.le_of_ble_eq_true rfl) (Nat.le_of_ble_eq_true rfl) ?_
      exact L838 _ _ _ hw (lv_sub hl [2, 3, 4, 5, 1, 0] rfl)
    have hbn : x % ρ 4 < ρ 4 := Nat.mod_lt _ c_n
    refine lv_iload_n hx hb dL_refuses_519 rfl (lv_at hl 3 rfl) ?_
    refine lv_iload_n hx hb dL_refuses_520 rfl (lv_at hl 4 rfl) ?_
    refine x_irem M (n := x % (ρ 4)) dL_refuses_521 (by omega) (by omega) (by omega) rfl ?_
    refine lv_istore (lv' := [(6, .int (nI (x % (ρ 4)))), (5, .int (nI 1)), (4, .int (nI (ρ 1))), (0, .ref xo), (1, .int (nI x)), (2, .int (nI (ρ 4))), (3, .int (nI (ρ 0)))]) hx hb dL_refuses_522 hl (by decide) rfl (fun ls hl => ?_)
    refine lv_aload_n hx hb dL_refuses_524 rfl (lv_at hl 3 rfl) ?_
    refine lv_iconst (v := (nI 4)) hx hb dL_refuses_525 (by decide) ?_
    refine lv_iload hx hb dL_refuses_526 (lv_at hl 0 rfl) ?_
    refine lv_iconst (v := (nI 3)) hx hb dL_refuses_528 (by decide) ?_
    refine lv_iconst (v := (nI 0)) hx hb dL_refuses_529 (by decide) ?_
    refine x_cSG (As := [.ref xo, .int (nI 4), .int (nI (x % (ρ 4))), .int (nI 3), .int (nI 0)]) (oK_bidder l G Y xo h0 h1 hh hb2 sl a0 a1 sv tz az ρ nx ct rr κ0 κ1 fl tn lt γ κ γ1 gg δ0 δ1 lf tk bt bw _ _ (hI) (hbn) (by decide) _) cw_L_192 [0, 1, 2, 3, 4, 5, 6, 7, 8, 9, 10] M hK hZ hN hw hl.1 rfl (by decide) ⟨by decide, by decide⟩ ⟨by show _ ≤ 70; omega, by show _ ≤ 420; omega⟩ rfl rfl (Nat.le_of_ble_eq_true rfl) dL_refuses_530 (fun r sg h_51 ha H locs hw => ?_)
    obtain ⟨rfl, rfl⟩ := h_51
    have hw : xW G A s.heap (oW Y xo h0 h1 hh hb2 sl a0 a1 sv tz az ρ nx ct rr κ0 κ1 fl tn lt γ κ γ1 gg δ0 δ1 lf tk bt bw) H locs := hw
    refine x_topN (n := ρ (22 + 21 * (x % ρ 4))) rfl ?_
    have hp3 := hO.inv.pck (q := 22 + 21 * (x % ρ 4)) hbn rfl
    refine lv_istore (lv' := [(7, .int (nI (ρ (22 + 21 * (x % ρ 4))))), (6, .int (nI (x % (ρ 4)))), (5, .int (nI 1)), (4, .int (nI (ρ 1))), (0, .ref xo), (1, .int (nI x)), (2, .int (nI (ρ 4))), (3, .int (nI (ρ 0)))]) hx hb dL_refuses_533 hl (by decide) rfl (fun ls hl => ?_)
    refine lv_iload hx hb dL_refuses_535 (lv_at hl 2 rfl) ?_
    refine x_zeq M (tgt := 835) (by decide) dL_refuses_537 (by decide) (fun c_52 => by exfalso; exact absurd c_52 (by decide)) (fun c_52 => ?_)
    refine lv_aload_n hx hb dL_refuses_540 rfl (lv_at hl 4 rfl) ?_
    refine lv_iconst (v := (nI 4)) hx hb dL_refuses_541 (by decide) ?_
    refine lv_iload hx hb dL_refuses_542 (lv_at hl 1 rfl) ?_
    refine lv_iconst (v := (nI 5)) hx hb dL_refuses_544 (by decide) ?_
    refine lv_iload_n hx hb dL_refuses_545 rfl (lv_at hl 5 rfl) ?_
    refine lv_bipush (v := (nI 9)) hx hb dL_refuses_546 (by decide) ?_
    refine x_irem M (n := x % 9) dL_refuses_548 (by omega) (by omega) (by decide) rfl ?_
    refine x_iadd M (n := 5 + (x % 9)) dL_refuses_549 rfl ?_
    refine lv_iconst (v := (nI 0)) hx hb dL_refuses_550 (by decide) ?_
    refine x_cSG (As := [.ref xo, .int (nI 4), .int (nI (x % (ρ 4))), .int (nI (5 + (x % 9))), .int (nI 0)]) (oT_bidder_2 l hfl G Y xo h0 h1 hh hb2 sl a0 a1 sv tz az ρ nx ct rr κ0 κ1 fl tn lt γ κ γ1 gg δ0 δ1 lf tk bt bw _ _ (hI) (hbn) (oz (by omega) (by omega)) _) cw_L_192 [0, 1, 2, 3, 4, 5, 6, 7, 8, 9, 10] M hK hZ hN hw hl.1 rfl (by decide) ⟨by decide, by decide⟩ ⟨by show _ ≤ 70; omega, by show _ ≤ 420; omega⟩ rfl rfl (Nat.le_of_ble_eq_true rfl) dL_refuses_551 (fun r sg h_53 ha H locs hw => ?_)
    obtain ⟨rfl, rfl⟩ := h_53
    have hw : xW G A s.heap (oW Y xo h0 h1 hh hb2 sl a0 a1 sv tz az ρ nx ct rr κ0 κ1 fl tn lt γ κ γ1 gg δ0 δ1 lf tk bt bw) H locs := hw
    refine lv_ldc (v := (-9999002)) hx hb M.2.2.2.1 (M.2.2.2.2 _ mw_387) dL_refuses_554 ?_
    refine lv_icmp_ne (tgt := 835) hx hb dL_refuses_556 (by decide) (fun z => absurd rfl z) (fun _ => ?_)
    refine lv_aload_n hx hb dL_refuses_559 rfl (lv_at hl 4 rfl) ?_
    refine lv_iconst (v := (nI 5)) hx hb dL_refuses_560 (by decide) ?_
    refine lv_iload hx hb dL_refuses_561 (lv_at hl 1 rfl) ?_
    refine lv_iconst (v := (nI 3)) hx hb dL_refuses_563 (by decide) ?_
    refine lv_iconst (v := (nI 0)) hx hb dL_refuses_564 (by decide) ?_
    refine x_cSG (As := [.ref xo, .int (nI 5), .int (nI (x % (ρ 4))), .int (nI 3), .int (nI 0)]) (oT_demand_2 l hfl G Y xo h0 h1 hh hb2 sl a0 a1 sv tz az ρ nx ct rr κ0 κ1 fl tn lt γ κ γ1 gg δ0 δ1 lf tk bt bw _ _ (hI) (hbn) (oz (by omega) (by omega)) _) cw_L_192 [0, 1, 2, 3, 4, 5, 6, 7, 8, 9, 10] M hK hZ hN hw hl.1 rfl (by decide) ⟨by decide, by decide⟩ ⟨by show _ ≤ 70; omega, by show _ ≤ 420; omega⟩ rfl rfl (Nat.le_of_ble_eq_true rfl) dL_refuses_565 (fun r sg h_54 ha H locs hw => ?_)
    obtain ⟨rfl, rfl⟩ := h_54
    have hw : xW G A s.heap (oW Y xo h0 h1 hh hb2 sl a0 a1 sv tz az ρ nx ct rr κ0 κ1 fl tn lt γ κ γ1 gg δ0 δ1 lf tk bt bw) H locs := hw
    refine lv_ldc (v := (-9999001)) hx hb M.2.2.2.1 (M.2.2.2.2 _ mw_711) dL_refuses_568 ?_
    refine lv_icmp_ne (tgt := 835) hx hb dL_refuses_570 (by decide) (fun z => absurd rfl z) (fun _ => ?_)
    refine lv_aload_n hx hb dL_refuses_573 rfl (lv_at hl 4 rfl) ?_
    refine lv_bipush (v := (nI 6)) hx hb dL_refuses_574 (by decide) ?_
    refine lv_iload hx hb dL_refuses_576 (lv_at hl 1 rfl) ?_
    refine lv_iload hx hb dL_refuses_578 (lv_at hl 0 rfl) ?_
    refine lv_iconst (v := (nI 1)) hx hb dL_refuses_580 (by decide) ?_
    refine x_iadd M (n := 1 + ρ (22 + 21 * (x % ρ 4))) dL_refuses_581 (by omega) ?_
    refine lv_iconst (v := (nI 0)) hx hb dL_refuses_582 (by decide) ?_
    refine x_cSG (As := [.ref xo, .int (nI 6), .int (nI (x % (ρ 4))), .int (nI (1 + ρ (22 + 21 * (x % ρ 4)))), .int (nI 0)]) (oT_pack_2 l hfl G Y xo h0 h1 hh hb2 sl a0 a1 sv tz az ρ nx ct rr κ0 κ1 fl tn lt γ κ γ1 gg δ0 δ1 lf tk bt bw _ _ _ (hI) (hbn) (oz (by omega) (by omega))) cw_L_192 [0, 1, 2, 3, 4, 5, 6, 7, 8, 9, 10] M hK hZ hN hw hl.1 rfl (by decide) ⟨by decide, by decide⟩ ⟨by show _ ≤ 70; omega, by show _ ≤ 420; omega⟩ rfl rfl (Nat.le_of_ble_eq_true rfl) dL_refuses_583 (fun r sg h_55 ha H locs hw => ?_)
    obtain ⟨rfl, rfl⟩ := h_55
    have hw : xW G A s.heap (oW Y xo h0 h1 hh hb2 sl a0 a1 sv tz az ρ nx ct rr κ0 κ1 fl tn lt γ κ γ1 gg δ0 δ1 lf tk bt bw) H locs := hw
    refine lv_ldc (v := (-9999001)) hx hb M.2.2.2.1 (M.2.2.2.2 _ mw_711) dL_refuses_586 ?_
    refine lv_icmp_ne (tgt := 835) hx hb dL_refuses_588 (by decide) (fun z => absurd rfl z) (fun _ => ?_)
    refine lv_aload_n hx hb dL_refuses_591 rfl (lv_at hl 4 rfl) ?_
    refine lv_bipush (v := (nI 6)) hx hb dL_refuses_592 (by decide) ?_
    refine lv_iload hx hb dL_refuses_594 (lv_at hl 1 rfl) ?_
    refine lv_iload_n hx hb dL_refuses_596 rfl (lv_at hl 5 rfl) ?_
    refine lv_iload hx hb dL_refuses_597 (lv_at hl 0 rfl) ?_
    refine lv_iconst (v := (nI 1)) hx hb dL_refuses_599 (by decide) ?_
    refine x_iadd M (n := 1 + ρ (22 + 21 * (x % ρ 4))) dL_refuses_600 (by omega) ?_
    refine x_irem M (n := x % (1 + ρ (22 + 21 * (x % ρ 4)))) dL_refuses_601 (by omega) (by omega) (by omega) rfl ?_
    refine lv_iconst (v := (nI 4)) hx hb dL_refuses_602 (by decide) ?_
    refine lv_iload_n hx hb dL_refuses_603 rfl (lv_at hl 5 rfl) ?_
    refine lv_bipush (v := (nI 9)) hx hb dL_refuses_604 (by decide) ?_
    refine x_irem M (n := x % 9) dL_refuses_606 (by omega) (by omega) (by decide) rfl ?_
    refine x_iadd M (n := 4 + (x % 9)) dL_refuses_607 rfl ?_
    refine x_cSG (As := [.ref xo, .int (nI 6), .int (nI (x % (ρ 4))), .int (nI (x % (1 + ρ (22 + 21 * (x % ρ 4))))), .int (nI (4 + (x % 9)))]) (oT_pack_3 l hfl G Y xo h0 h1 hh hb2 sl a0 a1 sv tz az ρ nx ct rr κ0 κ1 fl tn lt γ κ γ1 gg δ0 δ1 lf tk bt bw _ _ _ (hI) (hbn) (by have := Nat.mod_lt x (show 0 < 1 + ρ (22 + 21 * (x % ρ 4)) by omega); omega) (oz (by omega) (by omega))) cw_L_192 [0, 1, 2, 3, 4, 5, 6, 7, 8, 9, 10] M hK hZ hN hw hl.1 rfl (by decide) ⟨by decide, by decide⟩ ⟨by show _ ≤ 70; omega, by show _ ≤ 420; omega⟩ rfl rfl (Nat.le_of_ble_eq_true rfl) dL_refuses_608 (fun r sg h_56 ha H locs hw => ?_)
    obtain ⟨rfl, rfl⟩ := h_56
    have hw : xW G A s.heap (oW Y xo h0 h1 hh hb2 sl a0 a1 sv tz az ρ nx ct rr κ0 κ1 fl tn lt γ κ γ1 gg δ0 δ1 lf tk bt bw) H locs := hw
    refine lv_ldc (v := (-9999002)) hx hb M.2.2.2.1 (M.2.2.2.2 _ mw_387) dL_refuses_611 ?_
    refine lv_icmp_ne (tgt := 835) hx hb dL_refuses_613 (by decide) (fun z => absurd rfl z) (fun _ => ?_)
    refine lv_aload_n hx hb dL_refuses_616 rfl (lv_at hl 4 rfl) ?_
    refine lv_bipush (v := (nI 11)) hx hb dL_refuses_617 (by decide) ?_
    refine lv_iload hx hb dL_refuses_619 (lv_at hl 1 rfl) ?_
    refine lv_iconst (v := (nI 3)) hx hb dL_refuses_621 (by decide) ?_
    refine lv_iconst (v := (nI 0)) hx hb dL_refuses_622 (by decide) ?_
    refine x_cSG (As := [.ref xo, .int (nI 11), .int (nI (x % (ρ 4))), .int (nI 3), .int (nI 0)]) (oT_value_1 l hfl G Y xo h0 h1 hh hb2 sl a0 a1 sv tz az ρ nx ct rr κ0 κ1 fl tn lt γ κ γ1 gg δ0 δ1 lf tk bt bw _ _ _ (hI) (by unfold whyValue; rw [if_neg (iz (by omega) (by omega) (by omega)), if_pos (oz (by omega) (by omega))])) cw_L_192 [0, 1, 2, 3, 4, 5, 6, 7, 8, 9, 10] M hK hZ hN hw hl.1 rfl (by decide) ⟨by decide, by decide⟩ ⟨by show _ ≤ 70; omega, by show _ ≤ 420; omega⟩ rfl rfl (Nat.le_of_ble_eq_true rfl) dL_refuses_623 (fun r sg h_57 ha H locs hw => ?_)
    obtain ⟨rfl, rfl⟩ := h_57
    have hw : xW G A s.heap (oW Y xo h0 h1 hh hb2 sl a0 a1 sv tz az ρ nx ct rr κ0 κ1 fl tn lt γ κ γ1 gg δ0 δ1 lf tk bt bw) H locs := hw
    refine lv_ldc (v := (-9999001)) hx hb M.2.2.2.1 (M.2.2.2.2 _ mw_711) dL_refuses_626 ?_
    refine lv_icmp_ne (tgt := 835) hx hb dL_refuses_628 (by decide) (fun z => absurd rfl z) (fun _ => ?_)
    refine lv_aload_n hx hb dL_refuses_631 rfl (lv_at hl 4 rfl) ?_
    refine lv_bipush (v := (nI 11)) hx hb dL_refuses_632 (by decide) ?_
    refine lv_iload hx hb dL_refuses_634 (lv_at hl 1 rfl) ?_
    refine lv_iload_n hx hb dL_refuses_636 rfl (lv_at hl 5 rfl) ?_
    refine lv_iconst (v := (nI 3)) hx hb dL_refuses_637 (by decide) ?_
    refine x_irem M (n := x % 3) dL_refuses_638 (by omega) (by omega) (by decide) rfl ?_
    refine lv_ldc (v := (nI 100000)) hx hb M.2.2.2.1 (M.2.2.2.2 _ mw_970) dL_refuses_639 ?_
    refine lv_iload_n hx hb dL_refuses_641 rfl (lv_at hl 5 rfl) ?_
    refine lv_bipush (v := (nI 9)) hx hb dL_refuses_642 (by decide) ?_
    refine x_irem M (n := x % 9) dL_refuses_644 (by omega) (by omega) (by decide) rfl ?_
    refine x_iadd M (n := 100000 + (x % 9)) dL_refuses_645 rfl ?_
    refine x_cSG (As := [.ref xo, .int (nI 11), .int (nI (x % (ρ 4))), .int (nI (x % 3)), .int (nI (100000 + (x % 9)))]) (oT_value_2 l hfl G Y xo h0 h1 hh hb2 sl a0 a1 sv tz az ρ nx ct rr κ0 κ1 fl tn lt γ κ γ1 gg δ0 δ1 lf tk bt bw _ _ _ (hI) (by unfold whyValue; rw [if_neg (iz (by omega) (by omega) (by omega)), if_neg (iz (by omega) (by omega) (by omega)), if_pos (oz (by omega) (by omega))])) cw_L_192 [0, 1, 2, 3, 4, 5, 6, 7, 8, 9, 10] M hK hZ hN hw hl.1 rfl (by decide) ⟨by decide, by decide⟩ ⟨by show _ ≤ 70; omega, by show _ ≤ 420; omega⟩ rfl rfl (Nat.le_of_ble_eq_true rfl) dL_refuses_646 (fun r sg h_58 ha H locs hw => ?_)
    obtain ⟨rfl, rfl⟩ := h_58
    have hw : xW G A s.heap (oW Y xo h0 h1 hh hb2 sl a0 a1 sv tz az ρ nx ct rr κ0 κ1 fl tn lt γ κ γ1 gg δ0 δ1 lf tk bt bw) H locs := hw
    refine lv_ldc (v := (-9999002)) hx hb M.2.2.2.1 (M.2.2.2.2 _ mw_387) dL_refuses_649 ?_
    refine lv_icmp_ne (tgt := 835) hx hb dL_refuses_651 (by decide) (fun z => absurd rfl z) (fun _ => ?_)
    refine lv_aload_n hx hb dL_refuses_654 rfl (lv_at hl 4 rfl) ?_
    refine lv_bipush (v := (nI 12)) hx hb dL_refuses_655 (by decide) ?_
    refine lv_iload hx hb dL_refuses_657 (lv_at hl 1 rfl) ?_
    refine lv_iload_n hx hb dL_refuses_659 rfl (lv_at hl 5 rfl) ?_
    refine lv_iconst (v := (nI 3)) hx hb dL_refuses_660 (by decide) ?_
    refine x_irem M (n := x % 3) dL_refuses_661 (by omega) (by omega) (by decide) rfl ?_
    refine lv_bipush (v := (nI 10)) hx hb dL_refuses_662 (by decide) ?_
    refine lv_iload_n hx hb dL_refuses_664 rfl (lv_at hl 5 rfl) ?_
    refine lv_bipush (v := (nI 9)) hx hb dL_refuses_665 (by decide) ?_
    refine x_irem M (n := x % 9) dL_refuses_667 (by omega) (by omega) (by decide) rfl ?_
    refine x_iadd M (n := 10 + (x % 9)) dL_refuses_668 rfl ?_
    refine x_cSG (As := [.ref xo, .int (nI 12), .int (nI (x % (ρ 4))), .int (nI (x % 3)), .int (nI (10 + (x % 9)))]) (oT_ask_2 l hfl G Y xo h0 h1 hh hb2 sl a0 a1 sv tz az ρ nx ct rr κ0 κ1 fl tn lt γ κ γ1 gg δ0 δ1 lf tk bt bw _ _ _ (hI) (by unfold whyAsk; rw [if_neg (iz (by omega) (by omega) (by omega)), if_neg (iz (by omega) (by omega) (by omega)), if_pos (oz (by omega) (by omega))])) cw_L_192 [0, 1, 2, 3, 4, 5, 6, 7, 8, 9, 10] M hK hZ hN hw hl.1 rfl (by decide) ⟨by decide, by decide⟩ ⟨by show _ ≤ 70; omega, by show _ ≤ 420; omega⟩ rfl rfl (Nat.le_of_ble_eq_true rfl) dL_refuses_669 (fun r sg h_59 ha H locs hw => ?_)
    obtain ⟨rfl, rfl⟩ := h_59
    have hw : xW G A s.heap (oW Y xo h0 h1 hh hb2 sl a0 a1 sv tz az ρ nx ct rr κ0 κ1 fl tn lt γ κ γ1 gg δ0 δ1 lf tk bt bw) H locs := hw
    refine lv_ldc (v := (-9999002)) hx hb M.2.2.2.1 (M.2.2.2.2 _ mw_387) dL_refuses_672 ?_
    refine lv_icmp_ne (tgt := 835) hx hb dL_refuses_674 (by decide) (fun z => absurd rfl z) (fun _ => ?_)
    refine lv_aload_n hx hb dL_refuses_677 rfl (lv_at hl 4 rfl) ?_
    refine lv_bipush (v := (nI 15)) hx hb dL_refuses_678 (by decide) ?_
    refine lv_iload hx hb dL_refuses_680 (lv_at hl 1 rfl) ?_
    refine lv_iconst (v := (nI 0)) hx hb dL_refuses_682 (by decide) ?_
    refine lv_iconst (v := (nI 0)) hx hb dL_refuses_683 (by decide) ?_
    refine x_cSG (As := [.ref xo, .int (nI 15), .int (nI (x % (ρ 4))), .int (nI 0), .int (nI 0)]) (oT_drop_1 l hfl G Y xo h0 h1 hh hb2 sl a0 a1 sv tz az ρ nx ct rr κ0 κ1 fl tn lt γ κ γ1 gg δ0 δ1 lf tk bt bw _ _ (hI) (by unfold whyDrop; rw [if_neg (iz (by omega) (by omega) (by omega)), if_pos (oz (by omega) (by omega))]) _) cw_L_192 [0, 1, 2, 3, 4, 5, 6, 7, 8, 9, 10] M hK hZ hN hw hl.1 rfl (by decide) ⟨by decide, by decide⟩ ⟨by show _ ≤ 70; omega, by show _ ≤ 420; omega⟩ rfl rfl (Nat.le_of_ble_eq_true rfl) dL_refuses_684 (fun r sg h_60 ha H locs hw => ?_)
    obtain ⟨rfl, rfl⟩ := h_60
    have hw : xW G A s.heap (oW Y xo h0 h1 hh hb2 sl a0 a1 sv tz az ρ nx ct rr κ0 κ1 fl tn lt γ κ γ1 gg δ0 δ1 lf tk bt bw) H locs := hw
    refine lv_ldc (v := (-9999001)) hx hb M.2.2.2.1 (M.2.2.2.2 _ mw_711) dL_refuses_687 ?_
    refine lv_icmp_ne (tgt := 835) hx hb dL_refuses_689 (by decide) (fun z => absurd rfl z) (fun _ => ?_)
    refine lv_aload_n hx hb dL_refuses_692 rfl (lv_at hl 4 rfl) ?_
    refine lv_bipush (v := (nI 15)) hx hb dL_refuses_693 (by decide) ?_
    refine lv_iload hx hb dL_refuses_695 (lv_at hl 1 rfl) ?_
    refine lv_iload hx hb dL_refuses_697 (lv_at hl 0 rfl) ?_
    refine lv_iconst (v := (nI 1)) hx hb dL_refuses_699 (by decide) ?_
    refine x_iadd M (n := 1 + ρ (22 + 21 * (x % ρ 4))) dL_refuses_700 (by omega) ?_
    refine lv_iconst (v := (nI 0)) hx hb dL_refuses_701 (by decide) ?_
    refine x_cSG (As := [.ref xo, .int (nI 15), .int (nI (x % (ρ 4))), .int (nI (1 + ρ (22 + 21 * (x % ρ 4)))), .int (nI 0)]) (oT_drop_1 l hfl G Y xo h0 h1 hh hb2 sl a0 a1 sv tz az ρ nx ct rr κ0 κ1 fl tn lt γ κ γ1 gg δ0 δ1 lf tk bt bw _ _ (hI) (by unfold whyDrop; rw [if_neg (iz (by omega) (by omega) (by omega)), zt (show x % ρ 4 < 2 ^ 31 by omega), if_pos (oz (by omega) (by omega))]) _) cw_L_192 [0, 1, 2, 3, 4, 5, 6, 7, 8, 9, 10] M hK hZ hN hw hl.1 rfl (by decide) ⟨by decide, by decide⟩ ⟨by show _ ≤ 70; omega, by show _ ≤ 420; omega⟩ rfl rfl (Nat.le_of_ble_eq_true rfl) dL_refuses_702 (fun r sg h_61 ha H locs hw => ?_)
    obtain ⟨rfl, rfl⟩ := h_61
    have hw : xW G A s.heap (oW Y xo h0 h1 hh hb2 sl a0 a1 sv tz az ρ nx ct rr κ0 κ1 fl tn lt γ κ γ1 gg δ0 δ1 lf tk bt bw) H locs := hw
    refine lv_ldc (v := (-9999001)) hx hb M.2.2.2.1 (M.2.2.2.2 _ mw_711) dL_refuses_705 ?_
    refine lv_icmp_ne (tgt := 835) hx hb dL_refuses_707 (by decide) (fun z => absurd rfl z) (fun _ => ?_)
    refine lv_aload_n hx hb dL_refuses_710 rfl (lv_at hl 4 rfl) ?_
    refine lv_iload hx hb dL_refuses_711 (lv_at hl 1 rfl) ?_
    refine lv_bipush (v := (nI 10)) hx hb dL_refuses_713 (by decide) ?_
    refine lv_iconst (v := (nI 0)) hx hb dL_refuses_715 (by decide) ?_
    refine lv_iconst (v := (nI 0)) hx hb dL_refuses_716 (by decide) ?_
    refine lv_iconst (v := (nI 5)) hx hb dL_refuses_717 (by decide) ?_
    refine x_cSL2 (As := [.ref xo, .int (nI (x % (ρ 4))), .int (nI 10), .int (nI 0), .int (nI 0), .int (nI 5)]) (oT_add_2 l hfl G Y xo h0 h1 hh hb2 sl a0 a1 sv tz az ρ nx ct rr κ0 κ1 fl tn lt γ κ γ1 gg δ0 δ1 lf tk bt bw _ _ _ _ _ (hI) (by unfold whyAdd; rw [if_neg (iz (by omega) (by omega) (by omega)), if_pos (oz (by omega) (by omega))])) cl_tryAdd [0, 1, 2, 3, 4, 5, 6, 7, 8, 9, 10] M hK hZ hN hw hl.1 rfl (by decide) ⟨by decide, by decide⟩ ⟨by show _ ≤ 70; omega, by show _ ≤ 420; omega⟩ rfl rfl (Nat.le_of_ble_eq_true rfl) dL_refuses_718 (fun r sg h_62 ha H locs hw => ?_)
    obtain ⟨rfl, rfl⟩ := h_62
    have hw : xW G A s.heap (oW Y xo h0 h1 hh hb2 sl a0 a1 sv tz az ρ nx ct rr κ0 κ1 fl tn lt γ κ γ1 gg δ0 δ1 lf tk bt bw) H locs := hw
    refine lv_ldc (v := (-9999002)) hx hb M.2.2.2.1 (M.2.2.2.2 _ mw_387) dL_refuses_721 ?_
    refine lv_icmp_ne (tgt := 835) hx hb dL_refuses_723 (by decide) (fun z => absurd rfl z) (fun _ => ?_)
    refine lv_aload_n hx hb dL_refuses_726 rfl (lv_at hl 4 rfl) ?_
    refine lv_iload hx hb dL_refuses_727 (lv_at hl 1 rfl) ?_
    refine lv_iconst (v := (nI 1)) hx hb dL_refuses_729 (by decide) ?_
    refine lv_iconst (v := (nI 0)) hx hb dL_refuses_730 (by decide) ?_
    refine lv_iconst (v := (nI 0)) hx hb dL_refuses_731 (by decide) ?_
    refine lv_iconst (v := (nI 0)) hx hb dL_refuses_732 (by decide) ?_
    refine x_cSL2 (As := [.ref xo, .int (nI (x % (ρ 4))), .int (nI 1), .int (nI 0), .int (nI 0), .int (nI 0)]) (oT_add_2 l hfl G Y xo h0 h1 hh hb2 sl a0 a1 sv tz az ρ nx ct rr κ0 κ1 fl tn lt γ κ γ1 gg δ0 δ1 lf tk bt bw _ _ _ _ _ (hI) (by unfold whyAdd; rw [if_neg (iz (by omega) (by omega) (by omega)), if_neg (iz (by omega) (by omega) (by omega)), if_neg (iz (by omega) (by omega) (by omega)), if_neg (iz (by omega) (by omega) (by omega)), if_pos (oz (by omega) (by omega))])) cl_tryAdd [0, 1, 2, 3, 4, 5, 6, 7, 8, 9, 10] M hK hZ hN hw hl.1 rfl (by decide) ⟨by decide, by decide⟩ ⟨by show _ ≤ 70; omega, by show _ ≤ 420; omega⟩ rfl rfl (Nat.le_of_ble_eq_true rfl) dL_refuses_733 (fun r sg h_63 ha H locs hw => ?_)
    obtain ⟨rfl, rfl⟩ := h_63
    have hw : xW G A s.heap (oW Y xo h0 h1 hh hb2 sl a0 a1 sv tz az ρ nx ct rr κ0 κ1 fl tn lt γ κ γ1 gg δ0 δ1 lf tk bt bw) H locs := hw
    refine lv_ldc (v := (-9999002)) hx hb M.2.2.2.1 (M.2.2.2.2 _ mw_387) dL_refuses_736 ?_
    refine lv_icmp_ne (tgt := 835) hx hb dL_refuses_738 (by decide) (fun z => absurd rfl z) (fun _ => ?_)
    refine lv_aload_n hx hb dL_refuses_741 rfl (lv_at hl 4 rfl) ?_
    refine lv_iload hx hb dL_refuses_742 (lv_at hl 1 rfl) ?_
    refine lv_iconst (v := (nI 0)) hx hb dL_refuses_744 (by decide) ?_
    refine lv_iconst (v := (nI 0)) hx hb dL_refuses_745 (by decide) ?_
    refine lv_iconst (v := (nI 0)) hx hb dL_refuses_746 (by decide) ?_
    refine lv_ldc (v := (nI 999999)) hx hb M.2.2.2.1 (M.2.2.2.2 _ mw_980) dL_refuses_747 ?_
    refine x_cSL2 (As := [.ref xo, .int (nI (x % (ρ 4))), .int (nI 0), .int (nI 0), .int (nI 0), .int (nI 999999)]) (oT_add_3 l hfl G Y xo h0 h1 hh hb2 sl a0 a1 sv tz az ρ nx ct rr κ0 κ1 fl tn lt γ κ γ1 gg δ0 δ1 lf tk bt bw _ _ _ _ _ (hI) (by unfold whyAdd; rw [if_neg (iz (by omega) (by omega) (by omega)), if_neg (iz (by omega) (by omega) (by omega)), if_neg (iz (by omega) (by omega) (by omega)), if_neg (iz (by omega) (by omega) (by omega)), if_neg (iz (by omega) (by omega) (by omega))]; exact add3_no)) cl_tryAdd [0, 1, 2, 3, 4, 5, 6, 7, 8, 9, 10] M hK hZ hN hw hl.1 rfl (by decide) ⟨by decide, by decide⟩ ⟨by show _ ≤ 70; omega, by show _ ≤ 420; omega⟩ rfl rfl (Nat.le_of_ble_eq_true rfl) dL_refuses_749 (fun r sg h_64 ha H locs hw => ?_)
    obtain ⟨rfl, rfl⟩ := h_64
    have hw : xW G A s.heap (oW Y xo h0 h1 hh hb2 sl a0 a1 sv tz az ρ nx ct rr κ0 κ1 fl tn lt γ κ γ1 gg δ0 δ1 lf tk bt bw) H locs := hw
    refine lv_ldc (v := (-9999003)) hx hb M.2.2.2.1 (M.2.2.2.2 _ mw_483) dL_refuses_752 ?_
    refine lv_icmp_ne (tgt := 835) hx hb dL_refuses_754 (by decide) (fun z => absurd rfl z) (fun _ => ?_)
    refine lv_aload_n hx hb dL_refuses_757 rfl (lv_at hl 4 rfl) ?_
    refine lv_bipush (v := (nI 8)) hx hb dL_refuses_758 (by decide) ?_
    refine lv_iload_n hx hb dL_refuses_760 rfl (lv_at hl 5 rfl) ?_
    refine lv_iconst (v := (nI 3)) hx hb dL_refuses_761 (by decide) ?_
    refine x_irem M (n := x % 3) dL_refuses_762 (by omega) (by omega) (by decide) rfl ?_
    refine lv_iconst (v := (nI 1)) hx hb dL_refuses_763 (by decide) ?_
    refine lv_iconst (v := (nI 1)) hx hb dL_refuses_764 (by decide) ?_
    refine x_cSG (As := [.ref xo, .int (nI 8), .int (nI (x % 3)), .int (nI 1), .int (nI 1)]) (oT_offer_3 l hfl G Y xo h0 h1 hh hb2 sl a0 a1 sv tz az ρ nx ct rr κ0 κ1 fl tn lt γ κ γ1 gg δ0 δ1 lf tk bt bw _ _ _ (hI) (by unfold whyOffer; rw [if_neg (iz (by omega) (by omega) (by omega)), if_neg (iz (by omega) (by omega) (by omega)), if_neg (iz (by omega) (by omega) (by omega))]; (repeat' split) <;> first | rfl | omega)) cw_L_192 [0, 1, 2, 3, 4, 5, 6, 7, 8, 9, 10] M hK hZ hN hw hl.1 rfl (by decide) ⟨by decide, by decide⟩ ⟨by show _ ≤ 70; omega, by show _ ≤ 420; omega⟩ rfl rfl (Nat.le_of_ble_eq_true rfl) dL_refuses_765 (fun r sg h_65 ha H locs hw => ?_)
    obtain ⟨rfl, rfl⟩ := h_65
    have hw : xW G A s.heap (oW Y xo h0 h1 hh hb2 sl a0 a1 sv tz az ρ nx ct rr κ0 κ1 fl tn lt γ κ γ1 gg δ0 δ1 lf tk bt bw) H locs := hw
    refine lv_ldc (v := (-9999003)) hx hb M.2.2.2.1 (M.2.2.2.2 _ mw_483) dL_refuses_768 ?_
    refine lv_icmp_ne (tgt := 835) hx hb dL_refuses_770 (by decide) (fun z => absurd rfl z) (fun _ => ?_)
    have L794 : ∀ (H : Heap) (locs : List Loc) (ls : Array Slot), xW G A s.heap (oW Y xo h0 h1 hh hb2 sl a0 a1 sv tz az ρ nx ct rr κ0 κ1 fl tn lt γ κ γ1 gg δ0 δ1 lf tk bt bw) H locs → lv_has ls 8 [(7, .int (nI (ρ (22 + 21 * (x % ρ 4))))), (6, .int (nI (x % (ρ 4)))), (5, .int (nI 1)), (4, .int (nI (ρ 1))), (0, .ref xo), (1, .int (nI x)), (2, .int (nI (ρ 4))), (3, .int (nI (ρ 0)))] → W p l e (xRmG 40 1500 70 420) s m args below meth c H locs 47 282 Q (F0 m 794 ls []) := by
      intro H locs ls hw hl
      refine lv_iload hx hb dL_refuses_794 (lv_at hl 3 rfl) ?_
      refine x_zeq M (tgt := 831) (by omega) dL_refuses_796 (by decide) (fun c_66 => ?_) (fun c_66 => ?_)
      · refine lv_iconst (v := (nI 1)) hx hb dL_refuses_831 (by decide) ?_
        refine lv_goto (tgt := 836) hx hb dL_refuses_832 (by decide) ?_
        refine lv_istore (lv' := [(5, .int (nI 1)), (7, .int (nI (ρ (22 + 21 * (x % ρ 4))))), (6, .int (nI (x % (ρ 4)))), (4, .int (nI (ρ 1))), (0, .ref xo), (1, .int (nI x)), (2, .int (nI (ρ 4))), (3, .int (nI (ρ 0)))]) hx hb dL_refuses_836 hl (by decide) rfl (fun ls hl => ?_)
        refine W_widen (k := 50) (n := 300) (Nat.le_of_ble_eq_true rfl) (Nat.le_of_ble_eq_true rfl) ?_
        exact L838 _ _ _ hw (lv_sub hl [4, 5, 6, 7, 3, 0] rfl)
      refine lv_aload_n hx hb dL_refuses_799 rfl (lv_at hl 4 rfl) ?_
      refine lv_bipush (v := (nI 12)) hx hb dL_refuses_800 (by decide) ?_
      refine lv_iload hx hb dL_refuses_802 (lv_at hl 1 rfl) ?_
      refine lv_iload_n hx hb dL_refuses_804 rfl (lv_at hl 5 rfl) ?_
      refine lv_iconst (v := (nI 3)) hx hb dL_refuses_805 (by decide) ?_
      refine x_irem M (n := x % 3) dL_refuses_806 (by omega) (by omega) (by decide) rfl ?_
      refine lv_iconst (v := (nI 0)) hx hb dL_refuses_807 (by decide) ?_
      refine x_cSG (As := [.ref xo, .int (nI 12), .int (nI (x % (ρ 4))), .int (nI (x % 3)), .int (nI 0)]) (oT_ask_3 l hfl G Y xo h0 h1 hh hb2 sl a0 a1 sv tz az ρ nx ct rr κ0 κ1 fl tn lt γ κ γ1 gg δ0 δ1 lf tk bt bw _ _ _ (hI) (by unfold whyAsk; rw [if_neg (iz (by omega) (by omega) (by omega)), if_neg (iz (by omega) (by omega) (by omega)), if_neg (iz (by omega) (by omega) (by omega))]; exact ask3_over (by omega))) cw_L_192 [0, 1, 2, 3, 4, 5, 6, 7, 8, 9, 10] M hK hZ hN hw hl.1 rfl (by decide) ⟨by decide, by decide⟩ ⟨by show _ ≤ 70; omega, by show _ ≤ 420; omega⟩ rfl rfl (Nat.le_of_ble_eq_true rfl) dL_refuses_808 (fun r sg h_67 ha H locs hw => ?_)
      obtain ⟨rfl, rfl⟩ := h_67
      have hw : xW G A s.heap (oW Y xo h0 h1 hh hb2 sl a0 a1 sv tz az ρ nx ct rr κ0 κ1 fl tn lt γ κ γ1 gg δ0 δ1 lf tk bt bw) H locs := hw
      refine lv_ldc (v := (-9999003)) hx hb M.2.2.2.1 (M.2.2.2.2 _ mw_483) dL_refuses_811 ?_
      refine lv_icmp_ne (tgt := 835) hx hb dL_refuses_813 (by decide) (fun z => absurd rfl z) (fun _ => ?_)
      refine lv_aload_n hx hb dL_refuses_816 rfl (lv_at hl 4 rfl) ?_
      refine lv_bipush (v := (nI 13)) hx hb dL_refuses_817 (by decide) ?_
      refine lv_iload hx hb dL_refuses_819 (lv_at hl 1 rfl) ?_
      refine lv_iconst (v := (nI 0)) hx hb dL_refuses_821 (by decide) ?_
      refine lv_iconst (v := (nI 0)) hx hb dL_refuses_822 (by decide) ?_
      refine x_cSG (As := [.ref xo, .int (nI 13), .int (nI (x % (ρ 4))), .int (nI 0), .int (nI 0)]) (oT_bid_3 l hfl G Y xo h0 h1 hh hb2 sl a0 a1 sv tz az ρ nx ct rr κ0 κ1 fl tn lt γ κ γ1 gg δ0 δ1 lf tk bt bw _ (hI) (by unfold whyBid; rw [if_neg (iz (by omega) (by omega) (by omega)), if_neg (by omega)]) _ _) cw_L_192 [0, 1, 2, 3, 4, 5, 6, 7, 8, 9, 10] M hK hZ hN hw hl.1 rfl (by decide) ⟨by decide, by decide⟩ ⟨by show _ ≤ 70; omega, by show _ ≤ 420; omega⟩ rfl rfl (Nat.le_of_ble_eq_true rfl) dL_refuses_823 (fun r sg h_68 ha H locs hw => ?_)
      obtain ⟨rfl, rfl⟩ := h_68
      have hw : xW G A s.heap (oW Y xo h0 h1 hh hb2 sl a0 a1 sv tz az ρ nx ct rr κ0 κ1 fl tn lt γ κ γ1 gg δ0 δ1 lf tk bt bw) H locs := hw
      refine lv_ldc (v := (-9999003)) hx hb M.2.2.2.1 (M.2.2.2.2 _ mw_483) dL_refuses_826 ?_
      refine lv_icmp_ne (tgt := 835) hx hb dL_refuses_828 (by decide) (fun z => absurd rfl z) (fun _ => ?_)
      refine lv_iconst (v := (nI 1)) hx hb dL_refuses_831 (by decide) ?_
      refine lv_goto (tgt := 836) hx hb dL_refuses_832 (by decide) ?_
      refine lv_istore (lv' := [(5, .int (nI 1)), (7, .int (nI (ρ (22 + 21 * (x % ρ 4))))), (6, .int (nI (x % (ρ 4)))), (4, .int (nI (ρ 1))), (0, .ref xo), (1, .int (nI x)), (2, .int (nI (ρ 4))), (3, .int (nI (ρ 0)))]) hx hb dL_refuses_836 hl (by decide) rfl (fun ls hl => ?_)
      refine W_widen (k := 50) (n := 300) (Nat.le_of_ble_eq_true rfl) (Nat.le_of_ble_eq_true rfl) ?_
      exact L838 _ _ _ hw (lv_sub hl [4, 5, 6, 7, 3, 0] rfl)
    refine lv_iload hx hb dL_refuses_773 (lv_at hl 3 rfl) ?_
    refine x_zne M (tgt := 794) (by omega) dL_refuses_775 (by decide) (fun c_69 => ?_) (fun c_69 => ?_)
    · refine W_widen (k := 47) (n := 282) (Nat.le_of_ble_eq_true rfl) (Nat.le_of_ble_eq_true rfl) ?_
      exact L794 _ _ _ hw (lv_sub hl [0, 1, 2, 3, 4, 5, 6, 7] rfl)
    refine lv_aload_n hx hb dL_refuses_778 rfl (lv_at hl 4 rfl) ?_
    refine lv_iload hx hb dL_refuses_779 (lv_at hl 1 rfl) ?_
    refine lv_iconst (v := (nI 1)) hx hb dL_refuses_781 (by decide) ?_
    refine lv_iconst (v := (nI 0)) hx hb dL_refuses_782 (by decide) ?_
    refine lv_iconst (v := (nI 0)) hx hb dL_refuses_783 (by decide) ?_
    refine lv_ldc (v := (nI 999999)) hx hb M.2.2.2.1 (M.2.2.2.2 _ mw_980) dL_refuses_784 ?_
    refine x_cSL2 (As := [.ref xo, .int (nI (x % (ρ 4))), .int (nI 1), .int (nI 0), .int (nI 0), .int (nI 999999)]) (oT_add_3 l hfl G Y xo h0 h1 hh hb2 sl a0 a1 sv tz az ρ nx ct rr κ0 κ1 fl tn lt γ κ γ1 gg δ0 δ1 lf tk bt bw _ _ _ _ _ (hI) (by unfold whyAdd; rw [if_neg (iz (by omega) (by omega) (by omega)), if_neg (iz (by omega) (by omega) (by omega)), if_neg (iz (by omega) (by omega) (by omega)), if_neg (iz (by omega) (by omega) (by omega)), if_neg (iz (by omega) (by omega) (by omega))]; exact add3_now (by omega))) cl_tryAdd [0, 1, 2, 3, 4, 5, 6, 7, 8, 9, 10] M hK hZ hN hw hl.1 rfl (by decide) ⟨by decide, by decide⟩ ⟨by show _ ≤ 70; omega, by show _ ≤ 420; omega⟩ rfl rfl (Nat.le_of_ble_eq_true rfl) dL_refuses_786 (fun r sg h_70 ha H locs hw => ?_)
    obtain ⟨rfl, rfl⟩ := h_70
    have hw : xW G A s.heap (oW Y xo h0 h1 hh hb2 sl a0 a1 sv tz az ρ nx ct rr κ0 κ1 fl tn lt γ κ γ1 gg δ0 δ1 lf tk bt bw) H locs := hw
    refine lv_ldc (v := (-9999003)) hx hb M.2.2.2.1 (M.2.2.2.2 _ mw_483) dL_refuses_789 ?_
    refine lv_icmp_ne (tgt := 835) hx hb dL_refuses_791 (by decide) (fun z => absurd rfl z) (fun _ => ?_)
    refine W_widen (k := 47) (n := 282) (Nat.le_of_ble_eq_true rfl) (Nat.le_of_ble_eq_true rfl) ?_
    exact L794 _ _ _ hw (lv_sub hl [0, 1, 2, 3, 4, 5, 6, 7] rfl)
  refine lv_iconst (v := (nI 1)) hx hb dL_refuses_26 (by decide) ?_
  refine x_cne M (tgt := 34) (by omega) (by decide) dL_refuses_27 (by decide) (fun c_71 => ?_) (fun c_71 => ?_)
  · refine lv_iconst (v := (nI 0)) hx hb dL_refuses_34 (by decide) ?_
    refine x_topN (n := ρ 1) (congrArg nI (by omega)) ?_
    refine W_widen (k := 3) (n := 18) (Nat.le_of_ble_eq_true rfl) (Nat.le_of_ble_eq_true rfl) ?_
    exact L35 _ _ _ hw (lv_sub hl [2, 3, 1, 0] rfl)
  refine lv_iconst (v := (nI 1)) hx hb dL_refuses_30 (by decide) ?_
  refine lv_goto (tgt := 35) hx hb dL_refuses_31 (by decide) ?_
  refine x_topN (n := ρ 1) (congrArg nI (by omega)) ?_
  refine W_widen (k := 3) (n := 18) (Nat.le_of_ble_eq_true rfl) (Nat.le_of_ble_eq_true rfl) ?_
  exact L35 _ _ _ hw (lv_sub hl [2, 3, 1, 0] rfl)
