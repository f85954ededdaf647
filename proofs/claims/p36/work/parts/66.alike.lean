set_option maxHeartbeats 8000000 in
set_option maxRecDepth 20000 in
theorem c_L_alike (l : Launch) (hfl : l.stackTraces = false) (G : va_G) (Y : Nat → Nat) (xo h0 h1 hh hb2 sl a0 a1 sv tz az : Nat) (ρ : Nat → Nat) (nx : Nat) (ct : Nat) (rr : Nat → Nat → Nat) (κ0 : Nat → Nat) (κ1 : Nat → Nat) (fl : Nat → Int32) (tn : Nat) (lt : Nat → Nat) (γ : Nat → Nat → Nat) (κ : Nat → Nat) (γ1 : Nat → Nat → Nat) (gg : Nat → Nat → Nat → Nat) (δ0 : Nat → Nat → Nat) (δ1 : Nat → Nat → Nat) (lf : Nat → Nat) (tk : Nat → Int32) (bt : Nat → Int32) (bw : Int32) (xo2 h02 h12 hh2 hb22 sl2 a02 a12 sv2 tz2 az2 : Nat) (γ2 : Nat → Nat → Nat) (κ2 : Nat → Nat) (γ12 : Nat → Nat → Nat) (gg2 : Nat → Nat → Nat → Nat) (δ02 : Nat → Nat → Nat) (δ12 : Nat → Nat → Nat) (lf2 : Nat → Nat) (tk2 : Nat → Int32) (bt2 : Nat → Int32) (bw2 : Int32) (B x : Nat) (hO : OK B ρ nx ct rr κ0 κ1 fl tn lt) (hxx : x < 2 ^ 31) : CtG l yL_alike cL_alike 6 .boolean 40 1500 100 600 [.ref xo, .ref xo2, .int (nI x)] (oW Y xo h0 h1 hh hb2 sl a0 a1 sv tz az ρ nx ct rr κ0 κ1 fl tn lt γ κ γ1 gg δ0 δ1 lf tk bt bw ++ oW Y xo2 h02 h12 hh2 hb22 sl2 a02 a12 sv2 tz2 az2 ρ nx ct rr κ0 κ1 fl tn lt γ2 κ2 γ12 gg2 δ02 δ12 lf2 tk2 bt2 bw2) (fun r sg => r = 1 ∧ ∃ (κa : Nat → Nat) (γa : Nat → Nat → Nat) (κb : Nat → Nat) (γb : Nat → Nat → Nat), sg = oW Y xo h0 h1 hh hb2 sl a0 a1 sv tz az ρ nx ct rr κ0 κ1 fl tn lt γ κa γa gg δ0 δ1 lf tk bt bw ++ oW Y xo2 h02 h12 hh2 hb22 sl2 a02 a12 sv2 tz2 az2 ρ nx ct rr κ0 κ1 fl tn lt γ2 κb γb gg2 δ02 δ12 lf2 tk2 bt2 bw2) G Y := by
  refine x_ofG (by decide) (Nat.le_of_ble_eq_true rfl) (fun p e s m args below meth c A ls Q M hK hZ hN hw hl hret => ?_)
  obtain ⟨hx, hb, -⟩ := id M
  have hl : lv_has ls 6 [(0, .ref xo), (1, .ref xo2), (2, .int (nI x))] := hl
  have hI := hO.inv
  have h6 := hI.n6
  refine lv_aload_n hx hb dL_alike_0 rfl (lv_at hl 0 rfl) ?_
  refine x_cVI (As := []) (k_X5_errorPosition l G Y xo h0 h1 hh sl sv tz az tn lt hO.hn hO.hlt) cw_L_214 [0, 9] 0 0 M hK hZ hw hl.1 rfl (by decide) rfl rfl rfl ⟨by decide, by decide⟩ ⟨by show _ ≤ 100; omega, by show _ ≤ 600; omega⟩ rfl rfl (Nat.le_of_ble_eq_true rfl) dL_alike_1 (fun r sg h_1 H locs hw => ?_)
  obtain ⟨rfl, rfl⟩ := h_1
  have hw : xW G A s.heap (oW Y xo h0 h1 hh hb2 sl a0 a1 sv tz az ρ nx ct rr κ0 κ1 fl tn lt γ κ γ1 gg δ0 δ1 lf tk bt bw ++ oW Y xo2 h02 h12 hh2 hb22 sl2 a02 a12 sv2 tz2 az2 ρ nx ct rr κ0 κ1 fl tn lt γ2 κ2 γ12 gg2 δ02 δ12 lf2 tk2 bt2 bw2) H locs := hw
  refine lv_aload_n hx hb dL_alike_4 rfl (lv_at hl 1 rfl) ?_
  refine x_cVI (As := []) (k_X5_errorPosition l G Y xo2 h02 h12 hh2 sl2 sv2 tz2 az2 tn lt hO.hn hO.hlt) cw_L_214 [11, 20] 11 0 M hK hZ hw hl.1 rfl (by decide) rfl rfl rfl ⟨by decide, by decide⟩ ⟨by show _ ≤ 100; omega, by show _ ≤ 600; omega⟩ rfl rfl (Nat.le_of_ble_eq_true rfl) dL_alike_5 (fun r sg h_2 H locs hw => ?_)
  obtain ⟨rfl, rfl⟩ := h_2
  have hw : xW G A s.heap (oW Y xo h0 h1 hh hb2 sl a0 a1 sv tz az ρ nx ct rr κ0 κ1 fl tn lt γ κ γ1 gg δ0 δ1 lf tk bt bw ++ oW Y xo2 h02 h12 hh2 hb22 sl2 a02 a12 sv2 tz2 az2 ρ nx ct rr κ0 κ1 fl tn lt γ2 κ2 γ12 gg2 δ02 δ12 lf2 tk2 bt2 bw2) H locs := hw
  refine lv_icmp_ne (tgt := 15) hx hb dL_alike_8 (by decide) (fun z => absurd rfl z) (fun _ => ?_)
  refine lv_iconst (v := (nI 1)) hx hb dL_alike_11 (by decide) ?_
  refine lv_goto (tgt := 16) hx hb dL_alike_12 (by decide) ?_
  refine lv_istore_n (lv' := [(3, .int (nI 1)), (0, .ref xo), (1, .ref xo2), (2, .int (nI x))]) hx hb dL_alike_16 rfl hl (by decide) rfl (fun ls hl => ?_)
  have L116 : ∀ (H : Heap) (locs : List Loc) (ls : Array Slot), xW G A s.heap (oW Y xo h0 h1 hh hb2 sl a0 a1 sv tz az ρ nx ct rr κ0 κ1 fl tn lt γ κ γ1 gg δ0 δ1 lf tk bt bw ++ oW Y xo2 h02 h12 hh2 hb22 sl2 a02 a12 sv2 tz2 az2 ρ nx ct rr κ0 κ1 fl tn lt γ2 κ2 γ12 gg2 δ02 δ12 lf2 tk2 bt2 bw2) H locs → lv_has ls 6 [(0, .ref xo), (1, .ref xo2), (2, .int (nI x)), (3, .int (nI 1))] → W p l e (xRmG 40 1500 100 600) s m args below meth c H locs 36 216 Q (F0 m 116 ls []) := by
    intro H locs ls hw hl
    refine lv_aload_n hx hb dL_alike_116 rfl (lv_at hl 0 rfl) ?_
    refine lv_iconst (v := (nI 2)) hx hb dL_alike_117 (by decide) ?_
    refine lv_iconst (v := (nI 0)) hx hb dL_alike_118 (by decide) ?_
    refine lv_iconst (v := (nI 0)) hx hb dL_alike_119 (by decide) ?_
    refine lv_iconst (v := (nI 0)) hx hb dL_alike_120 (by decide) ?_
    refine x_cSG (As := [.ref xo, .int (nI 2), .int (nI 0), .int (nI 0), .int (nI 0)]) (oK_about l G Y xo h0 h1 hh hb2 sl a0 a1 sv tz az ρ nx ct rr κ0 κ1 fl tn lt γ κ γ1 gg δ0 δ1 lf tk bt bw _ (hI) (by decide) _ _) cw_L_192 [0, 1, 2, 3, 4, 5, 6, 7, 8, 9, 10] M hK hZ hN hw hl.1 rfl (by decide) ⟨by decide, by decide⟩ ⟨by show _ ≤ 100; omega, by show _ ≤ 600; omega⟩ rfl rfl (Nat.le_of_ble_eq_true rfl) dL_alike_121 (fun r sg h_3 ha H locs hw => ?_)
    obtain ⟨rfl, rfl⟩ := h_3
    have hw : xW G A s.heap (oW Y xo h0 h1 hh hb2 sl a0 a1 sv tz az ρ nx ct rr κ0 κ1 fl tn lt γ κ γ1 gg δ0 δ1 lf tk bt bw ++ oW Y xo2 h02 h12 hh2 hb22 sl2 a02 a12 sv2 tz2 az2 ρ nx ct rr κ0 κ1 fl tn lt γ2 κ2 γ12 gg2 δ02 δ12 lf2 tk2 bt2 bw2) H locs := hw
    refine x_topN (n := ρ 4) rfl ?_
    refine lv_istore (lv' := [(4, .int (nI (ρ 4))), (0, .ref xo), (1, .ref xo2), (2, .int (nI x)), (3, .int (nI 1))]) hx hb dL_alike_124 hl (by decide) rfl (fun ls hl => ?_)
    have L237 : ∀ (H : Heap) (locs : List Loc) (ls : Array Slot), xW G A s.heap (oW Y xo h0 h1 hh hb2 sl a0 a1 sv tz az ρ nx ct rr κ0 κ1 fl tn lt γ κ γ1 gg δ0 δ1 lf tk bt bw ++ oW Y xo2 h02 h12 hh2 hb22 sl2 a02 a12 sv2 tz2 az2 ρ nx ct rr κ0 κ1 fl tn lt γ2 κ2 γ12 gg2 δ02 δ12 lf2 tk2 bt2 bw2) H locs → lv_has ls 6 [(0, .ref xo), (1, .ref xo2), (2, .int (nI x)), (3, .int (nI 1)), (4, .int (nI (ρ 4)))] → W p l e (xRmG 40 1500 100 600) s m args below meth c H locs 74 444 Q (F0 m 237 ls []) := by
      intro H locs ls hw hl
      refine lv_iload_n hx hb dL_alike_237 rfl (lv_at hl 3 rfl) ?_
      refine x_zeq M (tgt := 281) (by decide) dL_alike_238 (by decide) (fun c_4 => by exfalso; exact absurd c_4 (by decide)) (fun c_4 => ?_)
      refine lv_iload hx hb dL_alike_241 (lv_at hl 4 rfl) ?_
      refine x_zeq M (tgt := 277) (by omega) dL_alike_243 (by decide) (fun c_n => ?_) (fun c_n => ?_)
      · refine lv_iconst (v := (nI 1)) hx hb dL_alike_277 (by decide) ?_
        refine lv_goto (tgt := 282) hx hb dL_alike_278 (by decide) ?_
        exact hret _ _ _ (nI 1) _ _ _ _ (by show _ ≤ 100; omega) (by show _ ≤ 600; omega) dL_alike_282 hw rfl rfl ⟨rfl, _, _, _, _, rfl⟩
      refine lv_aload_n hx hb dL_alike_246 rfl (lv_at hl 0 rfl) ?_
      refine lv_bipush (v := (nI 21)) hx hb dL_alike_247 (by decide) ?_
      refine lv_iload_n hx hb dL_alike_249 rfl (lv_at hl 2 rfl) ?_
      refine lv_iload hx hb dL_alike_250 (lv_at hl 4 rfl) ?_
      refine x_irem M (n := x % (ρ 4)) dL_alike_252 (by omega) (by omega) (by omega) rfl ?_
      refine lv_iload_n hx hb dL_alike_253 rfl (lv_at hl 2 rfl) ?_
      refine lv_iconst (v := (nI 3)) hx hb dL_alike_254 (by decide) ?_
      refine x_irem M (n := x % 3) dL_alike_255 (by omega) (by omega) (by decide) rfl ?_
      refine lv_iconst (v := (nI 0)) hx hb dL_alike_256 (by decide) ?_
      refine x_cSG (As := [.ref xo, .int (nI 21), .int (nI (x % (ρ 4))), .int (nI (x % 3)), .int (nI 0)]) (oK_wouldAsk l G Y xo h0 h1 hh hb2 sl a0 a1 sv tz az ρ nx ct rr κ0 κ1 fl tn lt γ κ γ1 gg δ0 δ1 lf tk bt bw _ _ (hI) (Nat.mod_lt _ c_n) (by omega) _) cw_L_192 [0, 1, 2, 3, 4, 5, 6, 7, 8, 9, 10] M hK hZ hN hw hl.1 rfl (by decide) ⟨by decide, by decide⟩ ⟨by show _ ≤ 100; omega, by show _ ≤ 600; omega⟩ rfl rfl (Nat.le_of_ble_eq_true rfl) dL_alike_257 (fun r sg h_5 ha H locs hw => ?_)
      obtain ⟨rfl, γ6, rfl⟩ := h_5
      have hw : xW G A s.heap (oW Y xo h0 h1 hh hb2 sl a0 a1 sv tz az ρ nx ct rr κ0 κ1 fl tn lt γ (mBid ρ (x % (ρ 4))) γ6 gg δ0 δ1 lf tk bt bw ++ oW Y xo2 h02 h12 hh2 hb22 sl2 a02 a12 sv2 tz2 az2 ρ nx ct rr κ0 κ1 fl tn lt γ2 κ2 γ12 gg2 δ02 δ12 lf2 tk2 bt2 bw2) H locs := hw
      refine lv_aload_n hx hb dL_alike_260 rfl (lv_at hl 1 rfl) ?_
      refine lv_bipush (v := (nI 21)) hx hb dL_alike_261 (by decide) ?_
      refine lv_iload_n hx hb dL_alike_263 rfl (lv_at hl 2 rfl) ?_
      refine lv_iload hx hb dL_alike_264 (lv_at hl 4 rfl) ?_
      refine x_irem M (n := x % (ρ 4)) dL_alike_266 (by omega) (by omega) (by omega) rfl ?_
      refine lv_iload_n hx hb dL_alike_267 rfl (lv_at hl 2 rfl) ?_
      refine lv_iconst (v := (nI 3)) hx hb dL_alike_268 (by decide) ?_
      refine x_irem M (n := x % 3) dL_alike_269 (by omega) (by omega) (by decide) rfl ?_
      refine lv_iconst (v := (nI 0)) hx hb dL_alike_270 (by decide) ?_
      refine x_cSG (As := [.ref xo2, .int (nI 21), .int (nI (x % (ρ 4))), .int (nI (x % 3)), .int (nI 0)]) (oK_wouldAsk l G Y xo2 h02 h12 hh2 hb22 sl2 a02 a12 sv2 tz2 az2 ρ nx ct rr κ0 κ1 fl tn lt γ2 κ2 γ12 gg2 δ02 δ12 lf2 tk2 bt2 bw2 _ _ (hI) (Nat.mod_lt _ c_n) (by omega) _) cw_L_192 [11, 12, 13, 14, 15, 16, 17, 18, 19, 20, 21] M hK hZ hN hw hl.1 rfl (by decide) ⟨by decide, by decide⟩ ⟨by show _ ≤ 100; omega, by show _ ≤ 600; omega⟩ rfl rfl (Nat.le_of_ble_eq_true rfl) dL_alike_271 (fun r sg h_7 ha H locs hw => ?_)
      obtain ⟨rfl, γ8, rfl⟩ := h_7
      have hw : xW G A s.heap (oW Y xo h0 h1 hh hb2 sl a0 a1 sv tz az ρ nx ct rr κ0 κ1 fl tn lt γ (mBid ρ (x % (ρ 4))) γ6 gg δ0 δ1 lf tk bt bw ++ oW Y xo2 h02 h12 hh2 hb22 sl2 a02 a12 sv2 tz2 az2 ρ nx ct rr κ0 κ1 fl tn lt γ2 (mBid ρ (x % (ρ 4))) γ8 gg2 δ02 δ12 lf2 tk2 bt2 bw2) H locs := hw
      refine lv_icmp_ne (tgt := 281) hx hb dL_alike_274 (by decide) (fun z => absurd rfl z) (fun _ => ?_)
      refine lv_iconst (v := (nI 1)) hx hb dL_alike_277 (by decide) ?_
      refine lv_goto (tgt := 282) hx hb dL_alike_278 (by decide) ?_
      exact hret _ _ _ (nI 1) _ _ _ _ (by show _ ≤ 100; omega) (by show _ ≤ 600; omega) dL_alike_282 hw rfl rfl ⟨rfl, _, _, _, _, rfl⟩
    refine lv_iconst (v := (nI 0)) hx hb dL_alike_126 (by decide) ?_
    refine lv_istore (lv' := [(5, .int (nI 0)), (4, .int (nI (ρ 4))), (0, .ref xo), (1, .ref xo2), (2, .int (nI x)), (3, .int (nI 1))]) hx hb dL_alike_127 hl (by decide) rfl (fun ls hl => ?_)
    have L129 : ∀ (fu b : Nat), ρ 4 < b + fu → b ≤ ρ 4 → ∀ (H : Heap) (locs : List Loc) (ls : Array Slot), xW G A s.heap (oW Y xo h0 h1 hh hb2 sl a0 a1 sv tz az ρ nx ct rr κ0 κ1 fl tn lt γ κ γ1 gg δ0 δ1 lf tk bt bw ++ oW Y xo2 h02 h12 hh2 hb22 sl2 a02 a12 sv2 tz2 az2 ρ nx ct rr κ0 κ1 fl tn lt γ2 κ2 γ12 gg2 δ02 δ12 lf2 tk2 bt2 bw2) H locs → lv_has ls 6 [(0, .ref xo), (1, .ref xo2), (2, .int (nI x)), (3, .int (nI 1)), (4, .int (nI (ρ 4))), (5, .int (nI b))] → W p l e (xRmG 40 1500 100 600) s m args below meth c H locs (37 + 6 * b) (222 + 36 * b) Q (F0 m 129 ls []) := by
      intro fu
      induction fu with
      | zero => intro b q1 q2; omega
      | succ fu ih129 =>
        intro b hq1_129 hq2_129 H locs ls hw hl
        refine lv_iload hx hb dL_alike_129 (lv_at hl 5 rfl) ?_
        refine lv_iload hx hb dL_alike_131 (lv_at hl 4 rfl) ?_
        refine x_cge M (tgt := 237) (by omega) (by omega) dL_alike_133 (by decide) (fun c_9 => ?_) (fun c_9 => ?_)
        · refine W_widen (k := 74) (n := 444) (by omega) (by omega) ?_
          exact L237 _ _ _ hw (lv_sub hl [0, 1, 2, 3, 4] rfl)
        refine lv_iload_n hx hb dL_alike_136 rfl (lv_at hl 3 rfl) ?_
        refine x_zeq M (tgt := 237) (by decide) dL_alike_137 (by decide) (fun c_10 => by exfalso; exact absurd c_10 (by decide)) (fun c_10 => ?_)
        refine lv_aload_n hx hb dL_alike_140 rfl (lv_at hl 0 rfl) ?_
        refine lv_iconst (v := (nI 4)) hx hb dL_alike_141 (by decide) ?_
        refine lv_iload hx hb dL_alike_142 (lv_at hl 5 rfl) ?_
        refine lv_iload_n hx hb dL_alike_144 rfl (lv_at hl 2 rfl) ?_
        refine lv_iconst (v := (nI 5)) hx hb dL_alike_145 (by decide) ?_
        refine x_irem M (n := x % 5) dL_alike_146 (by omega) (by omega) (by decide) rfl ?_
        refine lv_iconst (v := (nI 0)) hx hb dL_alike_147 (by decide) ?_
        refine x_cSG (As := [.ref xo, .int (nI 4), .int (nI b), .int (nI (x % 5)), .int (nI 0)]) (oK_bidder l G Y xo h0 h1 hh hb2 sl a0 a1 sv tz az ρ nx ct rr κ0 κ1 fl tn lt γ κ γ1 gg δ0 δ1 lf tk bt bw _ _ (hI) (by omega) (by omega) _) cw_L_192 [0, 1, 2, 3, 4, 5, 6, 7, 8, 9, 10] M hK hZ hN hw hl.1 rfl (by decide) ⟨by decide, by decide⟩ ⟨by show _ ≤ 100; omega, by show _ ≤ 600; omega⟩ rfl rfl (Nat.le_of_ble_eq_true rfl) dL_alike_148 (fun r sg h_11 ha H locs hw => ?_)
        obtain ⟨rfl, rfl⟩ := h_11
        have hw : xW G A s.heap (oW Y xo h0 h1 hh hb2 sl a0 a1 sv tz az ρ nx ct rr κ0 κ1 fl tn lt γ κ γ1 gg δ0 δ1 lf tk bt bw ++ oW Y xo2 h02 h12 hh2 hb22 sl2 a02 a12 sv2 tz2 az2 ρ nx ct rr κ0 κ1 fl tn lt γ2 κ2 γ12 gg2 δ02 δ12 lf2 tk2 bt2 bw2) H locs := hw
        refine lv_aload_n hx hb dL_alike_151 rfl (lv_at hl 1 rfl) ?_
        refine lv_iconst (v := (nI 4)) hx hb dL_alike_152 (by decide) ?_
        refine lv_iload hx hb dL_alike_153 (lv_at hl 5 rfl) ?_
        refine lv_iload_n hx hb dL_alike_155 rfl (lv_at hl 2 rfl) ?_
        refine lv_iconst (v := (nI 5)) hx hb dL_alike_156 (by decide) ?_
        refine x_irem M (n := x % 5) dL_alike_157 (by omega) (by omega) (by decide) rfl ?_
        refine lv_iconst (v := (nI 0)) hx hb dL_alike_158 (by decide) ?_
        refine x_cSG (As := [.ref xo2, .int (nI 4), .int (nI b), .int (nI (x % 5)), .int (nI 0)]) (oK_bidder l G Y xo2 h02 h12 hh2 hb22 sl2 a02 a12 sv2 tz2 az2 ρ nx ct rr κ0 κ1 fl tn lt γ2 κ2 γ12 gg2 δ02 δ12 lf2 tk2 bt2 bw2 _ _ (hI) (by omega) (by omega) _) cw_L_192 [11, 12, 13, 14, 15, 16, 17, 18, 19, 20, 21] M hK hZ hN hw hl.1 rfl (by decide) ⟨by decide, by decide⟩ ⟨by show _ ≤ 100; omega, by show _ ≤ 600; omega⟩ rfl rfl (Nat.le_of_ble_eq_true rfl) dL_alike_159 (fun r sg h_12 ha H locs hw => ?_)
        obtain ⟨rfl, rfl⟩ := h_12
        have hw : xW G A s.heap (oW Y xo h0 h1 hh hb2 sl a0 a1 sv tz az ρ nx ct rr κ0 κ1 fl tn lt γ κ γ1 gg δ0 δ1 lf tk bt bw ++ oW Y xo2 h02 h12 hh2 hb22 sl2 a02 a12 sv2 tz2 az2 ρ nx ct rr κ0 κ1 fl tn lt γ2 κ2 γ12 gg2 δ02 δ12 lf2 tk2 bt2 bw2) H locs := hw
        refine lv_icmp_ne (tgt := 229) hx hb dL_alike_162 (by decide) (fun z => absurd rfl z) (fun _ => ?_)
        refine lv_aload_n hx hb dL_alike_165 rfl (lv_at hl 0 rfl) ?_
        refine lv_iconst (v := (nI 5)) hx hb dL_alike_166 (by decide) ?_
        refine lv_iload hx hb dL_alike_167 (lv_at hl 5 rfl) ?_
        refine lv_iload_n hx hb dL_alike_169 rfl (lv_at hl 2 rfl) ?_
        refine lv_iconst (v := (nI 3)) hx hb dL_alike_170 (by decide) ?_
        refine x_irem M (n := x % 3) dL_alike_171 (by omega) (by omega) (by decide) rfl ?_
        refine lv_iconst (v := (nI 0)) hx hb dL_alike_172 (by decide) ?_
        refine x_cSG (As := [.ref xo, .int (nI 5), .int (nI b), .int (nI (x % 3)), .int (nI 0)]) (oK_demand l G Y xo h0 h1 hh hb2 sl a0 a1 sv tz az ρ nx ct rr κ0 κ1 fl tn lt γ κ γ1 gg δ0 δ1 lf tk bt bw _ _ (hI) (by omega) (by omega) _) cw_L_192 [0, 1, 2, 3, 4, 5, 6, 7, 8, 9, 10] M hK hZ hN hw hl.1 rfl (by decide) ⟨by decide, by decide⟩ ⟨by show _ ≤ 100; omega, by show _ ≤ 600; omega⟩ rfl rfl (Nat.le_of_ble_eq_true rfl) dL_alike_173 (fun r sg h_13 ha H locs hw => ?_)
        obtain ⟨rfl, rfl⟩ := h_13
        have hw : xW G A s.heap (oW Y xo h0 h1 hh hb2 sl a0 a1 sv tz az ρ nx ct rr κ0 κ1 fl tn lt γ κ γ1 gg δ0 δ1 lf tk bt bw ++ oW Y xo2 h02 h12 hh2 hb22 sl2 a02 a12 sv2 tz2 az2 ρ nx ct rr κ0 κ1 fl tn lt γ2 κ2 γ12 gg2 δ02 δ12 lf2 tk2 bt2 bw2) H locs := hw
        refine lv_aload_n hx hb dL_alike_176 rfl (lv_at hl 1 rfl) ?_
        refine lv_iconst (v := (nI 5)) hx hb dL_alike_177 (by decide) ?_
        refine lv_iload hx hb dL_alike_178 (lv_at hl 5 rfl) ?_
        refine lv_iload_n hx hb dL_alike_180 rfl (lv_at hl 2 rfl) ?_
        refine lv_iconst (v := (nI 3)) hx hb dL_alike_181 (by decide) ?_
        refine x_irem M (n := x % 3) dL_alike_182 (by omega) (by omega) (by decide) rfl ?_
        refine lv_iconst (v := (nI 0)) hx hb dL_alike_183 (by decide) ?_
        refine x_cSG (As := [.ref xo2, .int (nI 5), .int (nI b), .int (nI (x % 3)), .int (nI 0)]) (oK_demand l G Y xo2 h02 h12 hh2 hb22 sl2 a02 a12 sv2 tz2 az2 ρ nx ct rr κ0 κ1 fl tn lt γ2 κ2 γ12 gg2 δ02 δ12 lf2 tk2 bt2 bw2 _ _ (hI) (by omega) (by omega) _) cw_L_192 [11, 12, 13, 14, 15, 16, 17, 18, 19, 20, 21] M hK hZ hN hw hl.1 rfl (by decide) ⟨by decide, by decide⟩ ⟨by show _ ≤ 100; omega, by show _ ≤ 600; omega⟩ rfl rfl (Nat.le_of_ble_eq_true rfl) dL_alike_184 (fun r sg h_14 ha H locs hw => ?_)
        obtain ⟨rfl, rfl⟩ := h_14
        have hw : xW G A s.heap (oW Y xo h0 h1 hh hb2 sl a0 a1 sv tz az ρ nx ct rr κ0 κ1 fl tn lt γ κ γ1 gg δ0 δ1 lf tk bt bw ++ oW Y xo2 h02 h12 hh2 hb22 sl2 a02 a12 sv2 tz2 az2 ρ nx ct rr κ0 κ1 fl tn lt γ2 κ2 γ12 gg2 δ02 δ12 lf2 tk2 bt2 bw2) H locs := hw
        refine lv_icmp_ne (tgt := 229) hx hb dL_alike_187 (by decide) (fun z => absurd rfl z) (fun _ => ?_)
        have L225 : ∀ (H : Heap) (locs : List Loc) (ls : Array Slot), xW G A s.heap (oW Y xo h0 h1 hh hb2 sl a0 a1 sv tz az ρ nx ct rr κ0 κ1 fl tn lt γ κ γ1 gg δ0 δ1 lf tk bt bw ++ oW Y xo2 h02 h12 hh2 hb22 sl2 a02 a12 sv2 tz2 az2 ρ nx ct rr κ0 κ1 fl tn lt γ2 κ2 γ12 gg2 δ02 δ12 lf2 tk2 bt2 bw2) H locs → lv_has ls 6 [(0, .ref xo), (1, .ref xo2), (2, .int (nI x)), (3, .int (nI 1)), (4, .int (nI (ρ 4))), (5, .int (nI b))] → W p l e (xRmG 40 1500 100 600) s m args below meth c H locs (43 + 6 * b) (6 * (43 + 6 * b)) Q (F0 m 225 ls []) := by
          intro H locs ls hw hl
          refine lv_iconst (v := (nI 1)) hx hb dL_alike_225 (by decide) ?_
          refine lv_goto (tgt := 230) hx hb dL_alike_226 (by decide) ?_
          refine lv_istore_n (lv' := [(3, .int (nI 1)), (0, .ref xo), (1, .ref xo2), (2, .int (nI x)), (4, .int (nI (ρ 4))), (5, .int (nI b))]) hx hb dL_alike_230 rfl hl (by decide) rfl (fun ls hl => ?_)
          refine lv_iinc (v := (nI (1 + b))) (lv' := [(5, .int (nI (1 + b))), (3, .int (nI 1)), (0, .ref xo), (1, .ref xo2), (2, .int (nI x)), (4, .int (nI (ρ 4)))]) hx hb dL_alike_231 hl (k := 5) rfl (by rw [show (1 : Int) = ((1 : Nat) : Int) from rfl, nI_inc]; exact congrArg nI (by omega)) (by decide) rfl (fun ls hl => ?_)
          refine lv_goto (tgt := 129) hx hb dL_alike_234 (by decide) ?_
          refine W_widen (k := 37 + 6 * (1 + b)) (n := 222 + 36 * (1 + b)) (by omega) (by omega) ?_
          exact ih129 (1 + b) (by omega) (by omega) _ _ _ hw (lv_sub hl [2, 3, 4, 1, 5, 0] rfl)
        by_cases hq : x % 4 ≤ ρ (22 + 21 * b)
        · refine lv_aload_n hx hb dL_alike_190 rfl (lv_at hl 0 rfl) ?_
          refine lv_bipush (v := (nI 6)) hx hb dL_alike_191 (by decide) ?_
          refine lv_iload hx hb dL_alike_193 (lv_at hl 5 rfl) ?_
          refine lv_iload_n hx hb dL_alike_195 rfl (lv_at hl 2 rfl) ?_
          refine lv_iconst (v := (nI 4)) hx hb dL_alike_196 (by decide) ?_
          refine x_irem M (n := x % 4) dL_alike_197 (by omega) (by omega) (by decide) rfl ?_
          refine lv_iload_n hx hb dL_alike_198 rfl (lv_at hl 2 rfl) ?_
          refine lv_iconst (v := (nI 4)) hx hb dL_alike_199 (by decide) ?_
          refine x_idiv M (n := x / 4) dL_alike_200 (by omega) (by omega) (by decide) rfl ?_
          refine lv_iconst (v := (nI 4)) hx hb dL_alike_201 (by decide) ?_
          refine x_irem M (n := (x / 4) % 4) dL_alike_202 (by omega) (by omega) (by decide) rfl ?_
          refine x_cSG (As := [.ref xo, .int (nI 6), .int (nI b), .int (nI (x % 4)), .int (nI ((x / 4) % 4))]) (oK_pack l G Y xo h0 h1 hh hb2 sl a0 a1 sv tz az ρ nx ct rr κ0 κ1 fl tn lt γ κ γ1 gg δ0 δ1 lf tk bt bw _ _ _ (hI) (by omega) (by omega) (by omega)) cw_L_192 [0, 1, 2, 3, 4, 5, 6, 7, 8, 9, 10] M hK hZ hN hw hl.1 rfl (by decide) ⟨by decide, by decide⟩ ⟨by show _ ≤ 100; omega, by show _ ≤ 600; omega⟩ rfl rfl (Nat.le_of_ble_eq_true rfl) dL_alike_203 (fun r sg h_15 ha H locs hw => ?_)
          obtain ⟨rfl, rfl⟩ := h_15
          have hw : xW G A s.heap (oW Y xo h0 h1 hh hb2 sl a0 a1 sv tz az ρ nx ct rr κ0 κ1 fl tn lt γ κ γ1 gg δ0 δ1 lf tk bt bw ++ oW Y xo2 h02 h12 hh2 hb22 sl2 a02 a12 sv2 tz2 az2 ρ nx ct rr κ0 κ1 fl tn lt γ2 κ2 γ12 gg2 δ02 δ12 lf2 tk2 bt2 bw2) H locs := hw
          refine lv_aload_n hx hb dL_alike_206 rfl (lv_at hl 1 rfl) ?_
          refine lv_bipush (v := (nI 6)) hx hb dL_alike_207 (by decide) ?_
          refine lv_iload hx hb dL_alike_209 (lv_at hl 5 rfl) ?_
          refine lv_iload_n hx hb dL_alike_211 rfl (lv_at hl 2 rfl) ?_
          refine lv_iconst (v := (nI 4)) hx hb dL_alike_212 (by decide) ?_
          refine x_irem M (n := x % 4) dL_alike_213 (by omega) (by omega) (by decide) rfl ?_
          refine lv_iload_n hx hb dL_alike_214 rfl (lv_at hl 2 rfl) ?_
          refine lv_iconst (v := (nI 4)) hx hb dL_alike_215 (by decide) ?_
          refine x_idiv M (n := x / 4) dL_alike_216 (by omega) (by omega) (by decide) rfl ?_
          refine lv_iconst (v := (nI 4)) hx hb dL_alike_217 (by decide) ?_
          refine x_irem M (n := (x / 4) % 4) dL_alike_218 (by omega) (by omega) (by decide) rfl ?_
          refine x_cSG (As := [.ref xo2, .int (nI 6), .int (nI b), .int (nI (x % 4)), .int (nI ((x / 4) % 4))]) (oK_pack l G Y xo2 h02 h12 hh2 hb22 sl2 a02 a12 sv2 tz2 az2 ρ nx ct rr κ0 κ1 fl tn lt γ2 κ2 γ12 gg2 δ02 δ12 lf2 tk2 bt2 bw2 _ _ _ (hI) (by omega) (by omega) (by omega)) cw_L_192 [11, 12, 13, 14, 15, 16, 17, 18, 19, 20, 21] M hK hZ hN hw hl.1 rfl (by decide) ⟨by decide, by decide⟩ ⟨by show _ ≤ 100; omega, by show _ ≤ 600; omega⟩ rfl rfl (Nat.le_of_ble_eq_true rfl) dL_alike_219 (fun r sg h_16 ha H locs hw => ?_)
          obtain ⟨rfl, rfl⟩ := h_16
          have hw : xW G A s.heap (oW Y xo h0 h1 hh hb2 sl a0 a1 sv tz az ρ nx ct rr κ0 κ1 fl tn lt γ κ γ1 gg δ0 δ1 lf tk bt bw ++ oW Y xo2 h02 h12 hh2 hb22 sl2 a02 a12 sv2 tz2 az2 ρ nx ct rr κ0 κ1 fl tn lt γ2 κ2 γ12 gg2 δ02 δ12 lf2 tk2 bt2 bw2) H locs := hw
          refine lv_icmp_ne (tgt := 229) hx hb dL_alike_222 (by decide) (fun z => absurd rfl z) (fun _ => ?_)
          refine W_widen (k := (43 + 6 * b)) (n := (6 * (43 + 6 * b))) (by omega) (by omega) ?_
          exact L225 _ _ _ hw (lv_sub hl [0, 1, 2, 3, 4, 5] rfl)
        · refine lv_aload_n hx hb dL_alike_190 rfl (lv_at hl 0 rfl) ?_
          refine lv_bipush (v := (nI 6)) hx hb dL_alike_191 (by decide) ?_
          refine lv_iload hx hb dL_alike_193 (lv_at hl 5 rfl) ?_
          refine lv_iload_n hx hb dL_alike_195 rfl (lv_at hl 2 rfl) ?_
          refine lv_iconst (v := (nI 4)) hx hb dL_alike_196 (by decide) ?_
          refine x_irem M (n := x % 4) dL_alike_197 (by omega) (by omega) (by decide) rfl ?_
          refine lv_iload_n hx hb dL_alike_198 rfl (lv_at hl 2 rfl) ?_
          refine lv_iconst (v := (nI 4)) hx hb dL_alike_199 (by decide) ?_
          refine x_idiv M (n := x / 4) dL_alike_200 (by omega) (by omega) (by decide) rfl ?_
          refine lv_iconst (v := (nI 4)) hx hb dL_alike_201 (by decide) ?_
          refine x_irem M (n := (x / 4) % 4) dL_alike_202 (by omega) (by omega) (by decide) rfl ?_
          refine x_cSG (As := [.ref xo, .int (nI 6), .int (nI b), .int (nI (x % 4)), .int (nI ((x / 4) % 4))]) (oT_pack_2 l hfl G Y xo h0 h1 hh hb2 sl a0 a1 sv tz az ρ nx ct rr κ0 κ1 fl tn lt γ κ γ1 gg δ0 δ1 lf tk bt bw _ _ _ (hI) (by omega) (oz (by omega) (by omega))) cw_L_192 [0, 1, 2, 3, 4, 5, 6, 7, 8, 9, 10] M hK hZ hN hw hl.1 rfl (by decide) ⟨by decide, by decide⟩ ⟨by show _ ≤ 100; omega, by show _ ≤ 600; omega⟩ rfl rfl (Nat.le_of_ble_eq_true rfl) dL_alike_203 (fun r sg h_17 ha H locs hw => ?_)
          obtain ⟨rfl, rfl⟩ := h_17
          have hw : xW G A s.heap (oW Y xo h0 h1 hh hb2 sl a0 a1 sv tz az ρ nx ct rr κ0 κ1 fl tn lt γ κ γ1 gg δ0 δ1 lf tk bt bw ++ oW Y xo2 h02 h12 hh2 hb22 sl2 a02 a12 sv2 tz2 az2 ρ nx ct rr κ0 κ1 fl tn lt γ2 κ2 γ12 gg2 δ02 δ12 lf2 tk2 bt2 bw2) H locs := hw
          refine lv_aload_n hx hb dL_alike_206 rfl (lv_at hl 1 rfl) ?_
          refine lv_bipush (v := (nI 6)) hx hb dL_alike_207 (by decide) ?_
          refine lv_iload hx hb dL_alike_209 (lv_at hl 5 rfl) ?_
          refine lv_iload_n hx hb dL_alike_211 rfl (lv_at hl 2 rfl) ?_
          refine lv_iconst (v := (nI 4)) hx hb dL_alike_212 (by decide) ?_
          refine x_irem M (n := x % 4) dL_alike_213 (by omega) (by omega) (by decide) rfl ?_
          refine lv_iload_n hx hb dL_alike_214 rfl (lv_at hl 2 rfl) ?_
          refine lv_iconst (v := (nI 4)) hx hb dL_alike_215 (by decide) ?_
          refine x_idiv M (n := x / 4) dL_alike_216 (by omega) (by omega) (by decide) rfl ?_
          refine lv_iconst (v := (nI 4)) hx hb dL_alike_217 (by decide) ?_
          refine x_irem M (n := (x / 4) % 4) dL_alike_218 (by omega) (by omega) (by decide) rfl ?_
          refine x_cSG (As := [.ref xo2, .int (nI 6), .int (nI b), .int (nI (x % 4)), .int (nI ((x / 4) % 4))]) (oT_pack_2 l hfl G Y xo2 h02 h12 hh2 hb22 sl2 a02 a12 sv2 tz2 az2 ρ nx ct rr κ0 κ1 fl tn lt γ2 κ2 γ12 gg2 δ02 δ12 lf2 tk2 bt2 bw2 _ _ _ (hI) (by omega) (oz (by omega) (by omega))) cw_L_192 [11, 12, 13, 14, 15, 16, 17, 18, 19, 20, 21] M hK hZ hN hw hl.1 rfl (by decide) ⟨by decide, by decide⟩ ⟨by show _ ≤ 100; omega, by show _ ≤ 600; omega⟩ rfl rfl (Nat.le_of_ble_eq_true rfl) dL_alike_219 (fun r sg h_18 ha H locs hw => ?_)
          obtain ⟨rfl, rfl⟩ := h_18
          have hw : xW G A s.heap (oW Y xo h0 h1 hh hb2 sl a0 a1 sv tz az ρ nx ct rr κ0 κ1 fl tn lt γ κ γ1 gg δ0 δ1 lf tk bt bw ++ oW Y xo2 h02 h12 hh2 hb22 sl2 a02 a12 sv2 tz2 az2 ρ nx ct rr κ0 κ1 fl tn lt γ2 κ2 γ12 gg2 δ02 δ12 lf2 tk2 bt2 bw2) H locs := hw
          refine lv_icmp_ne (tgt := 229) hx hb dL_alike_222 (by decide) (fun z => absurd rfl z) (fun _ => ?_)
          refine W_widen (k := (43 + 6 * b)) (n := (6 * (43 + 6 * b))) (by omega) (by omega) ?_
          exact L225 _ _ _ hw (lv_sub hl [0, 1, 2, 3, 4, 5] rfl)
    refine W_widen (k := 37 + 6 * 0) (n := 222 + 36 * 0) (by omega) (by omega) ?_
    exact L129 (ρ 4 + 1) 0 (by omega) (by omega) _ _ _ hw (lv_sub hl [2, 3, 4, 5, 1, 0] rfl)
  refine lv_iconst (v := (nI 0)) hx hb dL_alike_17 (by decide) ?_
  refine lv_istore (lv' := [(4, .int (nI 0)), (3, .int (nI 1)), (0, .ref xo), (1, .ref xo2), (2, .int (nI x))]) hx hb dL_alike_18 hl (by decide) rfl (fun ls hl => ?_)
  have L20 : ∀ (fu i : Nat), 6 < i + fu → i ≤ 6 → ∀ (H : Heap) (locs : List Loc) (ls : Array Slot), xW G A s.heap (oW Y xo h0 h1 hh hb2 sl a0 a1 sv tz az ρ nx ct rr κ0 κ1 fl tn lt γ κ γ1 gg δ0 δ1 lf tk bt bw ++ oW Y xo2 h02 h12 hh2 hb22 sl2 a02 a12 sv2 tz2 az2 ρ nx ct rr κ0 κ1 fl tn lt γ2 κ2 γ12 gg2 δ02 δ12 lf2 tk2 bt2 bw2) H locs → lv_has ls 6 [(0, .ref xo), (1, .ref xo2), (2, .int (nI x)), (3, .int (nI 1)), (4, .int (nI i))] → W p l e (xRmG 40 1500 100 600) s m args below meth c H locs (6 * i) (36 * i) Q (F0 m 20 ls []) := by
    intro fu
    induction fu with
    | zero => intro i q1 q2; omega
    | succ fu ih20 =>
      intro i hq1_20 hq2_20 H locs ls hw hl
      refine lv_iload hx hb dL_alike_20 (lv_at hl 4 rfl) ?_
      refine lv_bipush (v := (nI 6)) hx hb dL_alike_22 (by decide) ?_
      refine x_cge M (tgt := 116) (by omega) (by decide) dL_alike_24 (by decide) (fun c_19 => ?_) (fun c_19 => ?_)
      · refine W_widen (k := 36) (n := 216) (by omega) (by omega) ?_
        exact L116 _ _ _ hw (lv_sub hl [0, 1, 2, 3] rfl)
      refine lv_iload_n hx hb dL_alike_27 rfl (lv_at hl 3 rfl) ?_
      refine x_zeq M (tgt := 116) (by decide) dL_alike_28 (by decide) (fun c_20 => by exfalso; exact absurd c_20 (by decide)) (fun c_20 => ?_)
      refine lv_aload_n hx hb dL_alike_31 rfl (lv_at hl 0 rfl) ?_
      refine lv_iconst (v := (nI 2)) hx hb dL_alike_32 (by decide) ?_
      refine lv_iload hx hb dL_alike_33 (lv_at hl 4 rfl) ?_
      refine lv_iconst (v := (nI 0)) hx hb dL_alike_35 (by decide) ?_
      refine lv_iconst (v := (nI 0)) hx hb dL_alike_36 (by decide) ?_
      refine x_cSG (As := [.ref xo, .int (nI 2), .int (nI i), .int (nI 0), .int (nI 0)]) (oK_about l G Y xo h0 h1 hh hb2 sl a0 a1 sv tz az ρ nx ct rr κ0 κ1 fl tn lt γ κ γ1 gg δ0 δ1 lf tk bt bw _ (hI) (by omega) _ _) cw_L_192 [0, 1, 2, 3, 4, 5, 6, 7, 8, 9, 10] M hK hZ hN hw hl.1 rfl (by decide) ⟨by decide, by decide⟩ ⟨by show _ ≤ 100; omega, by show _ ≤ 600; omega⟩ rfl rfl (Nat.le_of_ble_eq_true rfl) dL_alike_37 (fun r sg h_21 ha H locs hw => ?_)
      obtain ⟨rfl, rfl⟩ := h_21
      have hw : xW G A s.heap (oW Y xo h0 h1 hh hb2 sl a0 a1 sv tz az ρ nx ct rr κ0 κ1 fl tn lt γ κ γ1 gg δ0 δ1 lf tk bt bw ++ oW Y xo2 h02 h12 hh2 hb22 sl2 a02 a12 sv2 tz2 az2 ρ nx ct rr κ0 κ1 fl tn lt γ2 κ2 γ12 gg2 δ02 δ12 lf2 tk2 bt2 bw2) H locs := hw
      refine lv_aload_n hx hb dL_alike_40 rfl (lv_at hl 1 rfl) ?_
      refine lv_iconst (v := (nI 2)) hx hb dL_alike_41 (by decide) ?_
      refine lv_iload hx hb dL_alike_42 (lv_at hl 4 rfl) ?_
      refine lv_iconst (v := (nI 0)) hx hb dL_alike_44 (by decide) ?_
      refine lv_iconst (v := (nI 0)) hx hb dL_alike_45 (by decide) ?_
      refine x_cSG (As := [.ref xo2, .int (nI 2), .int (nI i), .int (nI 0), .int (nI 0)]) (oK_about l G Y xo2 h02 h12 hh2 hb22 sl2 a02 a12 sv2 tz2 az2 ρ nx ct rr κ0 κ1 fl tn lt γ2 κ2 γ12 gg2 δ02 δ12 lf2 tk2 bt2 bw2 _ (hI) (by omega) _ _) cw_L_192 [11, 12, 13, 14, 15, 16, 17, 18, 19, 20, 21] M hK hZ hN hw hl.1 rfl (by decide) ⟨by decide, by decide⟩ ⟨by show _ ≤ 100; omega, by show _ ≤ 600; omega⟩ rfl rfl (Nat.le_of_ble_eq_true rfl) dL_alike_46 (fun r sg h_22 ha H locs hw => ?_)
      obtain ⟨rfl, rfl⟩ := h_22
      have hw : xW G A s.heap (oW Y xo h0 h1 hh hb2 sl a0 a1 sv tz az ρ nx ct rr κ0 κ1 fl tn lt γ κ γ1 gg δ0 δ1 lf tk bt bw ++ oW Y xo2 h02 h12 hh2 hb22 sl2 a02 a12 sv2 tz2 az2 ρ nx ct rr κ0 κ1 fl tn lt γ2 κ2 γ12 gg2 δ02 δ12 lf2 tk2 bt2 bw2) H locs := hw
      refine lv_icmp_ne (tgt := 108) hx hb dL_alike_49 (by decide) (fun z => absurd rfl z) (fun _ => ?_)
      have L75 : ∀ (H : Heap) (locs : List Loc) (ls : Array Slot), xW G A s.heap (oW Y xo h0 h1 hh hb2 sl a0 a1 sv tz az ρ nx ct rr κ0 κ1 fl tn lt γ κ γ1 gg δ0 δ1 lf tk bt bw ++ oW Y xo2 h02 h12 hh2 hb22 sl2 a02 a12 sv2 tz2 az2 ρ nx ct rr κ0 κ1 fl tn lt γ2 κ2 γ12 gg2 δ02 δ12 lf2 tk2 bt2 bw2) H locs → lv_has ls 6 [(0, .ref xo), (1, .ref xo2), (2, .int (nI x)), (3, .int (nI 1)), (4, .int (nI i))] → W p l e (xRmG 40 1500 100 600) s m args below meth c H locs (6 * i + 4) (6 * (6 * i + 4)) Q (F0 m 75 ls []) := by
        intro H locs ls hw hl
        refine lv_aload_n hx hb dL_alike_75 rfl (lv_at hl 0 rfl) ?_
        refine lv_iconst (v := (nI 3)) hx hb dL_alike_76 (by decide) ?_
        refine lv_iload hx hb dL_alike_77 (lv_at hl 4 rfl) ?_
        refine lv_iconst (v := (nI 3)) hx hb dL_alike_79 (by decide) ?_
        refine x_irem M (n := i % 3) dL_alike_80 (by omega) (by omega) (by decide) rfl ?_
        refine lv_iload_n hx hb dL_alike_81 rfl (lv_at hl 2 rfl) ?_
        refine lv_iconst (v := (nI 4)) hx hb dL_alike_82 (by decide) ?_
        refine x_irem M (n := x % 4) dL_alike_83 (by omega) (by omega) (by decide) rfl ?_
        refine lv_iconst (v := (nI 0)) hx hb dL_alike_84 (by decide) ?_
        refine x_cSG (As := [.ref xo, .int (nI 3), .int (nI (i % 3)), .int (nI (x % 4)), .int (nI 0)]) (oK_kind l G Y xo h0 h1 hh hb2 sl a0 a1 sv tz az ρ nx ct rr κ0 κ1 fl tn lt γ κ γ1 gg δ0 δ1 lf tk bt bw _ _ (hI) (by omega) (by omega) _) cw_L_192 [0, 1, 2, 3, 4, 5, 6, 7, 8, 9, 10] M hK hZ hN hw hl.1 rfl (by decide) ⟨by decide, by decide⟩ ⟨by show _ ≤ 100; omega, by show _ ≤ 600; omega⟩ rfl rfl (Nat.le_of_ble_eq_true rfl) dL_alike_85 (fun r sg h_23 ha H locs hw => ?_)
        obtain ⟨rfl, rfl⟩ := h_23
        have hw : xW G A s.heap (oW Y xo h0 h1 hh hb2 sl a0 a1 sv tz az ρ nx ct rr κ0 κ1 fl tn lt γ κ γ1 gg δ0 δ1 lf tk bt bw ++ oW Y xo2 h02 h12 hh2 hb22 sl2 a02 a12 sv2 tz2 az2 ρ nx ct rr κ0 κ1 fl tn lt γ2 κ2 γ12 gg2 δ02 δ12 lf2 tk2 bt2 bw2) H locs := hw
        refine lv_aload_n hx hb dL_alike_88 rfl (lv_at hl 1 rfl) ?_
        refine lv_iconst (v := (nI 3)) hx hb dL_alike_89 (by decide) ?_
        refine lv_iload hx hb dL_alike_90 (lv_at hl 4 rfl) ?_
        refine lv_iconst (v := (nI 3)) hx hb dL_alike_92 (by decide) ?_
        refine x_irem M (n := i % 3) dL_alike_93 (by omega) (by omega) (by decide) rfl ?_
        refine lv_iload_n hx hb dL_alike_94 rfl (lv_at hl 2 rfl) ?_
        refine lv_iconst (v := (nI 4)) hx hb dL_alike_95 (by decide) ?_
        refine x_irem M (n := x % 4) dL_alike_96 (by omega) (by omega) (by decide) rfl ?_
        refine lv_iconst (v := (nI 0)) hx hb dL_alike_97 (by decide) ?_
        refine x_cSG (As := [.ref xo2, .int (nI 3), .int (nI (i % 3)), .int (nI (x % 4)), .int (nI 0)]) (oK_kind l G Y xo2 h02 h12 hh2 hb22 sl2 a02 a12 sv2 tz2 az2 ρ nx ct rr κ0 κ1 fl tn lt γ2 κ2 γ12 gg2 δ02 δ12 lf2 tk2 bt2 bw2 _ _ (hI) (by omega) (by omega) _) cw_L_192 [11, 12, 13, 14, 15, 16, 17, 18, 19, 20, 21] M hK hZ hN hw hl.1 rfl (by decide) ⟨by decide, by decide⟩ ⟨by show _ ≤ 100; omega, by show _ ≤ 600; omega⟩ rfl rfl (Nat.le_of_ble_eq_true rfl) dL_alike_98 (fun r sg h_24 ha H locs hw => ?_)
        obtain ⟨rfl, rfl⟩ := h_24
        have hw : xW G A s.heap (oW Y xo h0 h1 hh hb2 sl a0 a1 sv tz az ρ nx ct rr κ0 κ1 fl tn lt γ κ γ1 gg δ0 δ1 lf tk bt bw ++ oW Y xo2 h02 h12 hh2 hb22 sl2 a02 a12 sv2 tz2 az2 ρ nx ct rr κ0 κ1 fl tn lt γ2 κ2 γ12 gg2 δ02 δ12 lf2 tk2 bt2 bw2) H locs := hw
        refine lv_icmp_ne (tgt := 108) hx hb dL_alike_101 (by decide) (fun z => absurd rfl z) (fun _ => ?_)
        refine lv_iconst (v := (nI 1)) hx hb dL_alike_104 (by decide) ?_
        refine lv_goto (tgt := 109) hx hb dL_alike_105 (by decide) ?_
        refine lv_istore_n (lv' := [(3, .int (nI 1)), (0, .ref xo), (1, .ref xo2), (2, .int (nI x)), (4, .int (nI i))]) hx hb dL_alike_109 rfl hl (by decide) rfl (fun ls hl => ?_)
        refine lv_iinc (v := (nI (1 + i))) (lv' := [(4, .int (nI (1 + i))), (3, .int (nI 1)), (0, .ref xo), (1, .ref xo2), (2, .int (nI x))]) hx hb dL_alike_110 hl (k := 4) rfl (by rw [show (1 : Int) = ((1 : Nat) : Int) from rfl, nI_inc]; exact congrArg nI (by omega)) (by decide) rfl (fun ls hl => ?_)
        refine lv_goto (tgt := 20) hx hb dL_alike_113 (by decide) ?_
        refine W_widen (k := 6 * (1 + i)) (n := 36 * (1 + i)) (by omega) (by omega) ?_
        exact ih20 (1 + i) (by omega) (by omega) _ _ _ hw (lv_sub hl [2, 3, 4, 1, 0] rfl)
      by_cases hq : i < 2
      · refine lv_aload_n hx hb dL_alike_52 rfl (lv_at hl 0 rfl) ?_
        refine lv_bipush (v := (nI 7)) hx hb dL_alike_53 (by decide) ?_
        refine lv_iload hx hb dL_alike_55 (lv_at hl 4 rfl) ?_
        refine lv_iconst (v := (nI 0)) hx hb dL_alike_57 (by decide) ?_
        refine lv_iconst (v := (nI 0)) hx hb dL_alike_58 (by decide) ?_
        refine x_cSG (As := [.ref xo, .int (nI 7), .int (nI i), .int (nI 0), .int (nI 0)]) (oK_setting l G Y xo h0 h1 hh hb2 sl a0 a1 sv tz az ρ nx ct rr κ0 κ1 fl tn lt γ κ γ1 gg δ0 δ1 lf tk bt bw _ (hI) (by omega) _ _) cw_L_192 [0, 1, 2, 3, 4, 5, 6, 7, 8, 9, 10] M hK hZ hN hw hl.1 rfl (by decide) ⟨by decide, by decide⟩ ⟨by show _ ≤ 100; omega, by show _ ≤ 600; omega⟩ rfl rfl (Nat.le_of_ble_eq_true rfl) dL_alike_59 (fun r sg h_25 ha H locs hw => ?_)
        obtain ⟨rfl, rfl⟩ := h_25
        have hw : xW G A s.heap (oW Y xo h0 h1 hh hb2 sl a0 a1 sv tz az ρ nx ct rr κ0 κ1 fl tn lt γ κ γ1 gg δ0 δ1 lf tk bt bw ++ oW Y xo2 h02 h12 hh2 hb22 sl2 a02 a12 sv2 tz2 az2 ρ nx ct rr κ0 κ1 fl tn lt γ2 κ2 γ12 gg2 δ02 δ12 lf2 tk2 bt2 bw2) H locs := hw
        refine lv_aload_n hx hb dL_alike_62 rfl (lv_at hl 1 rfl) ?_
        refine lv_bipush (v := (nI 7)) hx hb dL_alike_63 (by decide) ?_
        refine lv_iload hx hb dL_alike_65 (lv_at hl 4 rfl) ?_
        refine lv_iconst (v := (nI 0)) hx hb dL_alike_67 (by decide) ?_
        refine lv_iconst (v := (nI 0)) hx hb dL_alike_68 (by decide) ?_
        refine x_cSG (As := [.ref xo2, .int (nI 7), .int (nI i), .int (nI 0), .int (nI 0)]) (oK_setting l G Y xo2 h02 h12 hh2 hb22 sl2 a02 a12 sv2 tz2 az2 ρ nx ct rr κ0 κ1 fl tn lt γ2 κ2 γ12 gg2 δ02 δ12 lf2 tk2 bt2 bw2 _ (hI) (by omega) _ _) cw_L_192 [11, 12, 13, 14, 15, 16, 17, 18, 19, 20, 21] M hK hZ hN hw hl.1 rfl (by decide) ⟨by decide, by decide⟩ ⟨by show _ ≤ 100; omega, by show _ ≤ 600; omega⟩ rfl rfl (Nat.le_of_ble_eq_true rfl) dL_alike_69 (fun r sg h_26 ha H locs hw => ?_)
        obtain ⟨rfl, rfl⟩ := h_26
        have hw : xW G A s.heap (oW Y xo h0 h1 hh hb2 sl a0 a1 sv tz az ρ nx ct rr κ0 κ1 fl tn lt γ κ γ1 gg δ0 δ1 lf tk bt bw ++ oW Y xo2 h02 h12 hh2 hb22 sl2 a02 a12 sv2 tz2 az2 ρ nx ct rr κ0 κ1 fl tn lt γ2 κ2 γ12 gg2 δ02 δ12 lf2 tk2 bt2 bw2) H locs := hw
        refine lv_icmp_ne (tgt := 108) hx hb dL_alike_72 (by decide) (fun z => absurd rfl z) (fun _ => ?_)
        refine W_widen (k := (6 * i + 4)) (n := (6 * (6 * i + 4))) (by omega) (by omega) ?_
        exact L75 _ _ _ hw (lv_sub hl [0, 1, 2, 3, 4] rfl)
      · refine lv_aload_n hx hb dL_alike_52 rfl (lv_at hl 0 rfl) ?_
        refine lv_bipush (v := (nI 7)) hx hb dL_alike_53 (by decide) ?_
        refine lv_iload hx hb dL_alike_55 (lv_at hl 4 rfl) ?_
        refine lv_iconst (v := (nI 0)) hx hb dL_alike_57 (by decide) ?_
        refine lv_iconst (v := (nI 0)) hx hb dL_alike_58 (by decide) ?_
        refine x_cSG (As := [.ref xo, .int (nI 7), .int (nI i), .int (nI 0), .int (nI 0)]) (oT_setting l hfl G Y xo h0 h1 hh hb2 sl a0 a1 sv tz az ρ nx ct rr κ0 κ1 fl tn lt γ κ γ1 gg δ0 δ1 lf tk bt bw _ (oz (by omega) (by omega)) _ _) cw_L_192 [0, 1, 2, 3, 4, 5, 6, 7, 8, 9, 10] M hK hZ hN hw hl.1 rfl (by decide) ⟨by decide, by decide⟩ ⟨by show _ ≤ 100; omega, by show _ ≤ 600; omega⟩ rfl rfl (Nat.le_of_ble_eq_true rfl) dL_alike_59 (fun r sg h_27 ha H locs hw => ?_)
        obtain ⟨rfl, rfl⟩ := h_27
        have hw : xW G A s.heap (oW Y xo h0 h1 hh hb2 sl a0 a1 sv tz az ρ nx ct rr κ0 κ1 fl tn lt γ κ γ1 gg δ0 δ1 lf tk bt bw ++ oW Y xo2 h02 h12 hh2 hb22 sl2 a02 a12 sv2 tz2 az2 ρ nx ct rr κ0 κ1 fl tn lt γ2 κ2 γ12 gg2 δ02 δ12 lf2 tk2 bt2 bw2) H locs := hw
        refine lv_aload_n hx hb dL_alike_62 rfl (lv_at hl 1 rfl) ?_
        refine lv_bipush (v := (nI 7)) hx hb dL_alike_63 (by decide) ?_
        refine lv_iload hx hb dL_alike_65 (lv_at hl 4 rfl) ?_
        refine lv_iconst (v := (nI 0)) hx hb dL_alike_67 (by decide) ?_
        refine lv_iconst (v := (nI 0)) hx hb dL_alike_68 (by decide) ?_
        refine x_cSG (As := [.ref xo2, .int (nI 7), .int (nI i), .int (nI 0), .int (nI 0)]) (oT_setting l hfl G Y xo2 h02 h12 hh2 hb22 sl2 a02 a12 sv2 tz2 az2 ρ nx ct rr κ0 κ1 fl tn lt γ2 κ2 γ12 gg2 δ02 δ12 lf2 tk2 bt2 bw2 _ (oz (by omega) (by omega)) _ _) cw_L_192 [11, 12, 13, 14, 15, 16, 17, 18, 19, 20, 21] M hK hZ hN hw hl.1 rfl (by decide) ⟨by decide, by decide⟩ ⟨by show _ ≤ 100; omega, by show _ ≤ 600; omega⟩ rfl rfl (Nat.le_of_ble_eq_true rfl) dL_alike_69 (fun r sg h_28 ha H locs hw => ?_)
        obtain ⟨rfl, rfl⟩ := h_28
        have hw : xW G A s.heap (oW Y xo h0 h1 hh hb2 sl a0 a1 sv tz az ρ nx ct rr κ0 κ1 fl tn lt γ κ γ1 gg δ0 δ1 lf tk bt bw ++ oW Y xo2 h02 h12 hh2 hb22 sl2 a02 a12 sv2 tz2 az2 ρ nx ct rr κ0 κ1 fl tn lt γ2 κ2 γ12 gg2 δ02 δ12 lf2 tk2 bt2 bw2) H locs := hw
        refine lv_icmp_ne (tgt := 108) hx hb dL_alike_72 (by decide) (fun z => absurd rfl z) (fun _ => ?_)
        refine W_widen (k := (6 * i + 4)) (n := (6 * (6 * i + 4))) (by omega) (by omega) ?_
        exact L75 _ _ _ hw (lv_sub hl [0, 1, 2, 3, 4] rfl)
  refine W_widen (k := 6 * 0) (n := 36 * 0) (by omega) (by omega) ?_
  exact L20 (6 + 1) 0 (by omega) (by omega) _ _ _ hw (lv_sub hl [2, 3, 4, 1, 0] rfl)
