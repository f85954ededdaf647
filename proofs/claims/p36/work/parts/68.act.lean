set_option maxHeartbeats 8000000 in
set_option maxRecDepth 20000 in
theorem a_bid0 (l : Launch) (G : va_G) (Y : Nat → Nat) (xo h0 h1 hh hb2 sl a0 a1 sv tz az : Nat) (ρ : Nat → Nat) (nx : Nat) (ct : Nat) (rr : Nat → Nat → Nat) (κ0 : Nat → Nat) (κ1 : Nat → Nat) (fl : Nat → Int32) (tn : Nat) (lt : Nat → Nat) (γ : Nat → Nat → Nat) (κ : Nat → Nat) (γ1 : Nat → Nat → Nat) (gg : Nat → Nat → Nat → Nat) (δ0 : Nat → Nat → Nat) (δ1 : Nat → Nat → Nat) (lf : Nat → Nat) (tk : Nat → Int32) (bt : Nat → Int32) (bw : Int32) (x y : Nat) (hI : Inv ρ) (hxx : x < 2 ^ 31) (hyy : y < 2 ^ 31) (hq : x % 24 = 0 ∨ x % 24 = 1 ∨ x % 24 = 2 ∨ x % 24 = 3) (hn4 : 4 < ρ 4) {fr lo : Nat} {post post2 : Int32 → List va_W → Prop} (hC : CtG l yL_call cL_call 5 .int fr lo 1 6 [.ref xo, .int (nI 13), .int (nI (aB ρ y)), .int (nI 0), .int (nI 0)] (oW Y xo h0 h1 hh hb2 sl a0 a1 sv tz az ρ nx ct rr κ0 κ1 fl tn lt γ κ γ1 gg δ0 δ1 lf tk bt bw) post G Y) (hfr : fr ≤ 30) (hlo : lo ≤ 1000) (hpp : ∀ r sg, post r sg → post2 r sg) : CtG l yL_act cL_act 6 .int 40 1500 10 60 [.ref xo, .int (nI x), .int (nI y)] (oW Y xo h0 h1 hh hb2 sl a0 a1 sv tz az ρ nx ct rr κ0 κ1 fl tn lt γ κ γ1 gg δ0 δ1 lf tk bt bw) (post2) G Y := by
  refine x_ofG (by decide) (Nat.le_of_ble_eq_true rfl) (fun p e s m args below meth c A ls Q M hK hZ hN hw hl hret => ?_)
  obtain ⟨hx, hb, -⟩ := id M
  have hl : lv_has ls 6 [(0, .ref xo), (1, .int (nI x)), (2, .int (nI y))] := hl
  have h6 := hI.n6
  have haB := aB_le (ρ := ρ) (y := y)
  refine lv_aload_n hx hb dL_act_0 rfl (lv_at hl 0 rfl) ?_
  refine lv_iconst (v := (nI 2)) hx hb dL_act_1 (by decide) ?_
  refine lv_iconst (v := (nI 0)) hx hb dL_act_2 (by decide) ?_
  refine lv_iconst (v := (nI 0)) hx hb dL_act_3 (by decide) ?_
  refine lv_iconst (v := (nI 0)) hx hb dL_act_4 (by decide) ?_
  refine x_cSG (As := [.ref xo, .int (nI 2), .int (nI 0), .int (nI 0), .int (nI 0)]) (oK_about l G Y xo h0 h1 hh hb2 sl a0 a1 sv tz az ρ nx ct rr κ0 κ1 fl tn lt γ κ γ1 gg δ0 δ1 lf tk bt bw _ (hI) (by decide) _ _) cw_L_192 [0, 1, 2, 3, 4, 5, 6, 7, 8, 9, 10] M hK hZ hN hw hl.1 rfl (by decide) ⟨by decide, by decide⟩ ⟨by show _ ≤ 10; omega, by show _ ≤ 60; omega⟩ rfl rfl (Nat.le_of_ble_eq_true rfl) dL_act_5 (fun r sg h_1 ha H locs hw => ?_)
  obtain ⟨rfl, rfl⟩ := h_1
  have hw : xW G A s.heap (oW Y xo h0 h1 hh hb2 sl a0 a1 sv tz az ρ nx ct rr κ0 κ1 fl tn lt γ κ γ1 gg δ0 δ1 lf tk bt bw) H locs := hw
  refine x_topN (n := ρ 4) rfl ?_
  refine lv_istore_n (lv' := [(3, .int (nI (ρ 4))), (0, .ref xo), (1, .int (nI x)), (2, .int (nI y))]) hx hb dL_act_8 rfl hl (by decide) rfl (fun ls hl => ?_)
  have L20 : ∀ (H : Heap) (locs : List Loc) (ls : Array Slot), xW G A s.heap (oW Y xo h0 h1 hh hb2 sl a0 a1 sv tz az ρ nx ct rr κ0 κ1 fl tn lt γ κ γ1 gg δ0 δ1 lf tk bt bw) H locs → lv_has ls 6 [(3, .int (nI (ρ 4))), (0, .ref xo), (1, .int (nI x)), (2, .int (nI y))] → W p l e (xRmG 40 1500 10 60) s m args below meth c H locs 1 6 Q (F0 m 20 ls [.int (nI (aB ρ y))]) := by
    intro H locs ls hw hl
    refine lv_istore (lv' := [(4, .int (nI (aB ρ y))), (3, .int (nI (ρ 4))), (0, .ref xo), (1, .int (nI x)), (2, .int (nI y))]) hx hb dL_act_20 hl (by decide) rfl (fun ls hl => ?_)
    refine lv_iload_n hx hb dL_act_22 rfl (lv_at hl 4 rfl) ?_
    refine lv_bipush (v := (nI 8)) hx hb dL_act_23 (by decide) ?_
    refine x_idiv M (n := y / 8) dL_act_25 (by omega) (by omega) (by decide) rfl ?_
    refine lv_iconst (v := (nI 3)) hx hb dL_act_26 (by decide) ?_
    refine x_irem M (n := (y / 8) % 3) dL_act_27 (by omega) (by omega) (by decide) rfl ?_
    refine lv_istore (lv' := [(5, .int (nI ((y / 8) % 3))), (4, .int (nI (aB ρ y))), (3, .int (nI (ρ 4))), (0, .ref xo), (1, .int (nI x)), (2, .int (nI y))]) hx hb dL_act_28 hl (by decide) rfl (fun ls hl => ?_)
    refine lv_iload_n hx hb dL_act_30 rfl (lv_at hl 4 rfl) ?_
    refine lv_bipush (v := (nI 24)) hx hb dL_act_31 (by decide) ?_
    refine x_irem M (n := x % 24) dL_act_33 (by omega) (by omega) (by decide) rfl ?_
    have L136 : ∀ (H : Heap) (locs : List Loc) (ls : Array Slot), xW G A s.heap (oW Y xo h0 h1 hh hb2 sl a0 a1 sv tz az ρ nx ct rr κ0 κ1 fl tn lt γ κ γ1 gg δ0 δ1 lf tk bt bw) H locs → lv_has ls 6 [(5, .int (nI ((y / 8) % 3))), (4, .int (nI (aB ρ y))), (3, .int (nI (ρ 4))), (0, .ref xo), (1, .int (nI x)), (2, .int (nI y))] → W p l e (xRmG 40 1500 10 60) s m args below meth c H locs 1 6 Q (F0 m 136 ls []) := by
      intro H locs ls hw hl
      refine lv_iload_n hx hb dL_act_136 rfl (lv_at hl 2 rfl) ?_
      refine lv_iconst (v := (nI 4)) hx hb dL_act_137 (by decide) ?_
      refine x_cle M (tgt := 154) (by omega) (by decide) dL_act_138 (by decide) (fun c_2 => by exfalso; omega) (fun c_2 => ?_)
      refine lv_aload_n hx hb dL_act_141 rfl (lv_at hl 3 rfl) ?_
      refine lv_bipush (v := (nI 13)) hx hb dL_act_142 (by decide) ?_
      refine lv_iload hx hb dL_act_144 (lv_at hl 1 rfl) ?_
      refine lv_iconst (v := (nI 0)) hx hb dL_act_146 (by decide) ?_
      refine lv_iconst (v := (nI 0)) hx hb dL_act_147 (by decide) ?_
      refine x_cSG (As := [.ref xo, .int (nI 13), .int (nI (aB ρ y)), .int (nI 0), .int (nI 0)]) hC cw_L_192 [0, 1, 2, 3, 4, 5, 6, 7, 8, 9, 10] M hK hZ hN hw hl.1 rfl (by decide) ⟨by show _ ≤ 40; omega, by show _ ≤ 1500; omega⟩ ⟨by show _ ≤ 10; omega, by show _ ≤ 60; omega⟩ rfl rfl (Nat.le_of_ble_eq_true rfl) dL_act_148 (fun r sg hr ha H locs hw => ?_)
      have hw : xW G A s.heap sg H locs := by rw [← xPut_all ha]; exact hw
      refine lv_goto (tgt := 173) hx hb dL_act_151 (by decide) ?_
      exact hret _ _ _ r _ _ _ _ (by show _ ≤ 10; omega) (by show _ ≤ 60; omega) dL_act_173 hw rfl ha (hpp r sg hr)
    rcases hq with hq | hq | hq | hq
    · refine x_topN (n := 0) (congrArg nI hq) ?_
      refine lv_tableIn (tgt := 136) hx hb dL_act_34 (by decide) (by decide) rfl (by decide) ?_
      exact L136 _ _ _ hw hl
    · refine x_topN (n := 1) (congrArg nI hq) ?_
      refine lv_tableIn (tgt := 136) hx hb dL_act_34 (by decide) (by decide) rfl (by decide) ?_
      exact L136 _ _ _ hw hl
    · refine x_topN (n := 2) (congrArg nI hq) ?_
      refine lv_tableIn (tgt := 136) hx hb dL_act_34 (by decide) (by decide) rfl (by decide) ?_
      exact L136 _ _ _ hw hl
    · refine x_topN (n := 3) (congrArg nI hq) ?_
      refine lv_tableIn (tgt := 136) hx hb dL_act_34 (by decide) (by decide) rfl (by decide) ?_
      exact L136 _ _ _ hw hl
  refine lv_iload_n hx hb dL_act_9 rfl (lv_at hl 0 rfl) ?_
  refine x_zne M (tgt := 17) (by omega) dL_act_10 (by decide) (fun c_n => ?_) (fun c_n => ?_)
  · refine lv_iload_n hx hb dL_act_17 rfl (lv_at hl 3 rfl) ?_
    refine lv_iload_n hx hb dL_act_18 rfl (lv_at hl 0 rfl) ?_
    refine x_irem M (n := y % (ρ 4)) dL_act_19 (by omega) (by omega) (by omega) rfl ?_
    refine x_topN (n := aB ρ y) (congrArg nI (aB_1 c_n)) ?_
    refine W_widen (k := 1) (n := 6) (by omega) (by omega) ?_
    exact L20 _ _ _ hw (lv_sub hl [0, 1, 2, 3] rfl)
  refine lv_iconst (v := (nI 0)) hx hb dL_act_13 (by decide) ?_
  refine lv_goto (tgt := 20) hx hb dL_act_14 (by decide) ?_
  refine x_topN (n := aB ρ y) (congrArg nI (aB_0 c_n)) ?_
  refine W_widen (k := 1) (n := 6) (by omega) (by omega) ?_
  exact L20 _ _ _ hw (lv_sub hl [0, 1, 2, 3] rfl)
set_option maxHeartbeats 8000000 in
set_option maxRecDepth 20000 in
theorem a_join (l : Launch) (G : va_G) (Y : Nat → Nat) (xo h0 h1 hh hb2 sl a0 a1 sv tz az : Nat) (ρ : Nat → Nat) (nx : Nat) (ct : Nat) (rr : Nat → Nat → Nat) (κ0 : Nat → Nat) (κ1 : Nat → Nat) (fl : Nat → Int32) (tn : Nat) (lt : Nat → Nat) (γ : Nat → Nat → Nat) (κ : Nat → Nat) (γ1 : Nat → Nat → Nat) (gg : Nat → Nat → Nat → Nat) (δ0 : Nat → Nat → Nat) (δ1 : Nat → Nat → Nat) (lf : Nat → Nat) (tk : Nat → Int32) (bt : Nat → Int32) (bw : Int32) (x y : Nat) (hI : Inv ρ) (hxx : x < 2 ^ 31) (hyy : y < 2 ^ 31) (hq : x % 24 = 0 ∨ x % 24 = 1 ∨ x % 24 = 2 ∨ x % 24 = 3) (hn4 : ρ 4 ≤ 4) {fr lo : Nat} {post post2 : Int32 → List va_W → Prop} (hC : CtG l yL_call cL_call 5 .int fr lo 1 6 [.ref xo, .int (nI 10), .int (nI (y % 40)), .int (nI (1 + ((y / 64) % 4))), .int (nI 0)] (oW Y xo h0 h1 hh hb2 sl a0 a1 sv tz az ρ nx ct rr κ0 κ1 fl tn lt γ κ γ1 gg δ0 δ1 lf tk bt bw) post G Y) (hfr : fr ≤ 30) (hlo : lo ≤ 1000) (hpp : ∀ r sg, post r sg → post2 r sg) : CtG l yL_act cL_act 6 .int 40 1500 10 60 [.ref xo, .int (nI x), .int (nI y)] (oW Y xo h0 h1 hh hb2 sl a0 a1 sv tz az ρ nx ct rr κ0 κ1 fl tn lt γ κ γ1 gg δ0 δ1 lf tk bt bw) (post2) G Y := by
  refine x_ofG (by decide) (Nat.le_of_ble_eq_true rfl) (fun p e s m args below meth c A ls Q M hK hZ hN hw hl hret => ?_)
  obtain ⟨hx, hb, -⟩ := id M
  have hl : lv_has ls 6 [(0, .ref xo), (1, .int (nI x)), (2, .int (nI y))] := hl
  have h6 := hI.n6
  have haB := aB_le (ρ := ρ) (y := y)
  refine lv_aload_n hx hb dL_act_0 rfl (lv_at hl 0 rfl) ?_
  refine lv_iconst (v := (nI 2)) hx hb dL_act_1 (by decide) ?_
  refine lv_iconst (v := (nI 0)) hx hb dL_act_2 (by decide) ?_
  refine lv_iconst (v := (nI 0)) hx hb dL_act_3 (by decide) ?_
  refine lv_iconst (v := (nI 0)) hx hb dL_act_4 (by decide) ?_
  refine x_cSG (As := [.ref xo, .int (nI 2), .int (nI 0), .int (nI 0), .int (nI 0)]) (oK_about l G Y xo h0 h1 hh hb2 sl a0 a1 sv tz az ρ nx ct rr κ0 κ1 fl tn lt γ κ γ1 gg δ0 δ1 lf tk bt bw _ (hI) (by decide) _ _) cw_L_192 [0, 1, 2, 3, 4, 5, 6, 7, 8, 9, 10] M hK hZ hN hw hl.1 rfl (by decide) ⟨by decide, by decide⟩ ⟨by show _ ≤ 10; omega, by show _ ≤ 60; omega⟩ rfl rfl (Nat.le_of_ble_eq_true rfl) dL_act_5 (fun r sg h_1 ha H locs hw => ?_)
  obtain ⟨rfl, rfl⟩ := h_1
  have hw : xW G A s.heap (oW Y xo h0 h1 hh hb2 sl a0 a1 sv tz az ρ nx ct rr κ0 κ1 fl tn lt γ κ γ1 gg δ0 δ1 lf tk bt bw) H locs := hw
  refine x_topN (n := ρ 4) rfl ?_
  refine lv_istore_n (lv' := [(3, .int (nI (ρ 4))), (0, .ref xo), (1, .int (nI x)), (2, .int (nI y))]) hx hb dL_act_8 rfl hl (by decide) rfl (fun ls hl => ?_)
  have L20 : ∀ (H : Heap) (locs : List Loc) (ls : Array Slot), xW G A s.heap (oW Y xo h0 h1 hh hb2 sl a0 a1 sv tz az ρ nx ct rr κ0 κ1 fl tn lt γ κ γ1 gg δ0 δ1 lf tk bt bw) H locs → lv_has ls 6 [(3, .int (nI (ρ 4))), (0, .ref xo), (1, .int (nI x)), (2, .int (nI y))] → W p l e (xRmG 40 1500 10 60) s m args below meth c H locs 1 6 Q (F0 m 20 ls [.int (nI (aB ρ y))]) := by
    intro H locs ls hw hl
    refine lv_istore (lv' := [(4, .int (nI (aB ρ y))), (3, .int (nI (ρ 4))), (0, .ref xo), (1, .int (nI x)), (2, .int (nI y))]) hx hb dL_act_20 hl (by decide) rfl (fun ls hl => ?_)
    refine lv_iload_n hx hb dL_act_22 rfl (lv_at hl 4 rfl) ?_
    refine lv_bipush (v := (nI 8)) hx hb dL_act_23 (by decide) ?_
    refine x_idiv M (n := y / 8) dL_act_25 (by omega) (by omega) (by decide) rfl ?_
    refine lv_iconst (v := (nI 3)) hx hb dL_act_26 (by decide) ?_
    refine x_irem M (n := (y / 8) % 3) dL_act_27 (by omega) (by omega) (by decide) rfl ?_
    refine lv_istore (lv' := [(5, .int (nI ((y / 8) % 3))), (4, .int (nI (aB ρ y))), (3, .int (nI (ρ 4))), (0, .ref xo), (1, .int (nI x)), (2, .int (nI y))]) hx hb dL_act_28 hl (by decide) rfl (fun ls hl => ?_)
    refine lv_iload_n hx hb dL_act_30 rfl (lv_at hl 4 rfl) ?_
    refine lv_bipush (v := (nI 24)) hx hb dL_act_31 (by decide) ?_
    refine x_irem M (n := x % 24) dL_act_33 (by omega) (by omega) (by decide) rfl ?_
    have L136 : ∀ (H : Heap) (locs : List Loc) (ls : Array Slot), xW G A s.heap (oW Y xo h0 h1 hh hb2 sl a0 a1 sv tz az ρ nx ct rr κ0 κ1 fl tn lt γ κ γ1 gg δ0 δ1 lf tk bt bw) H locs → lv_has ls 6 [(5, .int (nI ((y / 8) % 3))), (4, .int (nI (aB ρ y))), (3, .int (nI (ρ 4))), (0, .ref xo), (1, .int (nI x)), (2, .int (nI y))] → W p l e (xRmG 40 1500 10 60) s m args below meth c H locs 1 6 Q (F0 m 136 ls []) := by
      intro H locs ls hw hl
      refine lv_iload_n hx hb dL_act_136 rfl (lv_at hl 2 rfl) ?_
      refine lv_iconst (v := (nI 4)) hx hb dL_act_137 (by decide) ?_
      refine x_cle M (tgt := 154) (by omega) (by decide) dL_act_138 (by decide) (fun c_2 => ?_) (fun c_2 => by exfalso; omega)
      refine lv_aload_n hx hb dL_act_154 rfl (lv_at hl 3 rfl) ?_
      refine lv_bipush (v := (nI 10)) hx hb dL_act_155 (by decide) ?_
      refine lv_iload_n hx hb dL_act_157 rfl (lv_at hl 5 rfl) ?_
      refine lv_bipush (v := (nI 40)) hx hb dL_act_158 (by decide) ?_
      refine x_irem M (n := y % 40) dL_act_160 (by omega) (by omega) (by decide) rfl ?_
      refine lv_iconst (v := (nI 1)) hx hb dL_act_161 (by decide) ?_
      refine lv_iload_n hx hb dL_act_162 rfl (lv_at hl 5 rfl) ?_
      refine lv_bipush (v := (nI 64)) hx hb dL_act_163 (by decide) ?_
      refine x_idiv M (n := y / 64) dL_act_165 (by omega) (by omega) (by decide) rfl ?_
      refine lv_iconst (v := (nI 4)) hx hb dL_act_166 (by decide) ?_
      refine x_irem M (n := (y / 64) % 4) dL_act_167 (by omega) (by omega) (by decide) rfl ?_
      refine x_iadd M (n := 1 + ((y / 64) % 4)) dL_act_168 rfl ?_
      refine lv_iconst (v := (nI 0)) hx hb dL_act_169 (by decide) ?_
      refine x_cSG (As := [.ref xo, .int (nI 10), .int (nI (y % 40)), .int (nI (1 + ((y / 64) % 4))), .int (nI 0)]) hC cw_L_192 [0, 1, 2, 3, 4, 5, 6, 7, 8, 9, 10] M hK hZ hN hw hl.1 rfl (by decide) ⟨by show _ ≤ 40; omega, by show _ ≤ 1500; omega⟩ ⟨by show _ ≤ 10; omega, by show _ ≤ 60; omega⟩ rfl rfl (Nat.le_of_ble_eq_true rfl) dL_act_170 (fun r sg hr ha H locs hw => ?_)
      have hw : xW G A s.heap sg H locs := by rw [← xPut_all ha]; exact hw
      exact hret _ _ _ r _ _ _ _ (by show _ ≤ 10; omega) (by show _ ≤ 60; omega) dL_act_173 hw rfl ha (hpp r sg hr)
    rcases hq with hq | hq | hq | hq
    · refine x_topN (n := 0) (congrArg nI hq) ?_
      refine lv_tableIn (tgt := 136) hx hb dL_act_34 (by decide) (by decide) rfl (by decide) ?_
      exact L136 _ _ _ hw hl
    · refine x_topN (n := 1) (congrArg nI hq) ?_
      refine lv_tableIn (tgt := 136) hx hb dL_act_34 (by decide) (by decide) rfl (by decide) ?_
      exact L136 _ _ _ hw hl
    · refine x_topN (n := 2) (congrArg nI hq) ?_
      refine lv_tableIn (tgt := 136) hx hb dL_act_34 (by decide) (by decide) rfl (by decide) ?_
      exact L136 _ _ _ hw hl
    · refine x_topN (n := 3) (congrArg nI hq) ?_
      refine lv_tableIn (tgt := 136) hx hb dL_act_34 (by decide) (by decide) rfl (by decide) ?_
      exact L136 _ _ _ hw hl
  refine lv_iload_n hx hb dL_act_9 rfl (lv_at hl 0 rfl) ?_
  refine x_zne M (tgt := 17) (by omega) dL_act_10 (by decide) (fun c_n => ?_) (fun c_n => ?_)
  · refine lv_iload_n hx hb dL_act_17 rfl (lv_at hl 3 rfl) ?_
    refine lv_iload_n hx hb dL_act_18 rfl (lv_at hl 0 rfl) ?_
    refine x_irem M (n := y % (ρ 4)) dL_act_19 (by omega) (by omega) (by omega) rfl ?_
    refine x_topN (n := aB ρ y) (congrArg nI (aB_1 c_n)) ?_
    refine W_widen (k := 1) (n := 6) (by omega) (by omega) ?_
    exact L20 _ _ _ hw (lv_sub hl [0, 1, 2, 3] rfl)
  refine lv_iconst (v := (nI 0)) hx hb dL_act_13 (by decide) ?_
  refine lv_goto (tgt := 20) hx hb dL_act_14 (by decide) ?_
  refine x_topN (n := aB ρ y) (congrArg nI (aB_0 c_n)) ?_
  refine W_widen (k := 1) (n := 6) (by omega) (by omega) ?_
  exact L20 _ _ _ hw (lv_sub hl [0, 1, 2, 3] rfl)
set_option maxHeartbeats 8000000 in
set_option maxRecDepth 20000 in
theorem a_offer (l : Launch) (G : va_G) (Y : Nat → Nat) (xo h0 h1 hh hb2 sl a0 a1 sv tz az : Nat) (ρ : Nat → Nat) (nx : Nat) (ct : Nat) (rr : Nat → Nat → Nat) (κ0 : Nat → Nat) (κ1 : Nat → Nat) (fl : Nat → Int32) (tn : Nat) (lt : Nat → Nat) (γ : Nat → Nat → Nat) (κ : Nat → Nat) (γ1 : Nat → Nat → Nat) (gg : Nat → Nat → Nat → Nat) (δ0 : Nat → Nat → Nat) (δ1 : Nat → Nat → Nat) (lf : Nat → Nat) (tk : Nat → Int32) (bt : Nat → Int32) (bw : Int32) (x y : Nat) (hI : Inv ρ) (hxx : x < 2 ^ 31) (hyy : y < 2 ^ 31) (hq : x % 24 = 4)  {fr lo : Nat} {post post2 : Int32 → List va_W → Prop} (hC : CtG l yL_call cL_call 5 .int fr lo 1 6 [.ref xo, .int (nI 8), .int (nI ((y / 8) % 3)), .int (nI (1 + ((y / 32) % 4))), .int (nI (1 + ((y / 128) % 4)))] (oW Y xo h0 h1 hh hb2 sl a0 a1 sv tz az ρ nx ct rr κ0 κ1 fl tn lt γ κ γ1 gg δ0 δ1 lf tk bt bw) post G Y) (hfr : fr ≤ 30) (hlo : lo ≤ 1000) (hpp : ∀ r sg, post r sg → post2 r sg) : CtG l yL_act cL_act 6 .int 40 1500 10 60 [.ref xo, .int (nI x), .int (nI y)] (oW Y xo h0 h1 hh hb2 sl a0 a1 sv tz az ρ nx ct rr κ0 κ1 fl tn lt γ κ γ1 gg δ0 δ1 lf tk bt bw) (post2) G Y := by
  refine x_ofG (by decide) (Nat.le_of_ble_eq_true rfl) (fun p e s m args below meth c A ls Q M hK hZ hN hw hl hret => ?_)
  obtain ⟨hx, hb, -⟩ := id M
  have hl : lv_has ls 6 [(0, .ref xo), (1, .int (nI x)), (2, .int (nI y))] := hl
  have h6 := hI.n6
  have haB := aB_le (ρ := ρ) (y := y)
  refine lv_aload_n hx hb dL_act_0 rfl (lv_at hl 0 rfl) ?_
  refine lv_iconst (v := (nI 2)) hx hb dL_act_1 (by decide) ?_
  refine lv_iconst (v := (nI 0)) hx hb dL_act_2 (by decide) ?_
  refine lv_iconst (v := (nI 0)) hx hb dL_act_3 (by decide) ?_
  refine lv_iconst (v := (nI 0)) hx hb dL_act_4 (by decide) ?_
  refine x_cSG (As := [.ref xo, .int (nI 2), .int (nI 0), .int (nI 0), .int (nI 0)]) (oK_about l G Y xo h0 h1 hh hb2 sl a0 a1 sv tz az ρ nx ct rr κ0 κ1 fl tn lt γ κ γ1 gg δ0 δ1 lf tk bt bw _ (hI) (by decide) _ _) cw_L_192 [0, 1, 2, 3, 4, 5, 6, 7, 8, 9, 10] M hK hZ hN hw hl.1 rfl (by decide) ⟨by decide, by decide⟩ ⟨by show _ ≤ 10; omega, by show _ ≤ 60; omega⟩ rfl rfl (Nat.le_of_ble_eq_true rfl) dL_act_5 (fun r sg h_1 ha H locs hw => ?_)
  obtain ⟨rfl, rfl⟩ := h_1
  have hw : xW G A s.heap (oW Y xo h0 h1 hh hb2 sl a0 a1 sv tz az ρ nx ct rr κ0 κ1 fl tn lt γ κ γ1 gg δ0 δ1 lf tk bt bw) H locs := hw
  refine x_topN (n := ρ 4) rfl ?_
  refine lv_istore_n (lv' := [(3, .int (nI (ρ 4))), (0, .ref xo), (1, .int (nI x)), (2, .int (nI y))]) hx hb dL_act_8 rfl hl (by decide) rfl (fun ls hl => ?_)
  have L20 : ∀ (H : Heap) (locs : List Loc) (ls : Array Slot), xW G A s.heap (oW Y xo h0 h1 hh hb2 sl a0 a1 sv tz az ρ nx ct rr κ0 κ1 fl tn lt γ κ γ1 gg δ0 δ1 lf tk bt bw) H locs → lv_has ls 6 [(3, .int (nI (ρ 4))), (0, .ref xo), (1, .int (nI x)), (2, .int (nI y))] → W p l e (xRmG 40 1500 10 60) s m args below meth c H locs 1 6 Q (F0 m 20 ls [.int (nI (aB ρ y))]) := by
    intro H locs ls hw hl
    refine lv_istore (lv' := [(4, .int (nI (aB ρ y))), (3, .int (nI (ρ 4))), (0, .ref xo), (1, .int (nI x)), (2, .int (nI y))]) hx hb dL_act_20 hl (by decide) rfl (fun ls hl => ?_)
    refine lv_iload_n hx hb dL_act_22 rfl (lv_at hl 4 rfl) ?_
    refine lv_bipush (v := (nI 8)) hx hb dL_act_23 (by decide) ?_
    refine x_idiv M (n := y / 8) dL_act_25 (by omega) (by omega) (by decide) rfl ?_
    refine lv_iconst (v := (nI 3)) hx hb dL_act_26 (by decide) ?_
    refine x_irem M (n := (y / 8) % 3) dL_act_27 (by omega) (by omega) (by decide) rfl ?_
    refine lv_istore (lv' := [(5, .int (nI ((y / 8) % 3))), (4, .int (nI (aB ρ y))), (3, .int (nI (ρ 4))), (0, .ref xo), (1, .int (nI x)), (2, .int (nI y))]) hx hb dL_act_28 hl (by decide) rfl (fun ls hl => ?_)
    refine lv_iload_n hx hb dL_act_30 rfl (lv_at hl 4 rfl) ?_
    refine lv_bipush (v := (nI 24)) hx hb dL_act_31 (by decide) ?_
    refine x_irem M (n := x % 24) dL_act_33 (by omega) (by omega) (by decide) rfl ?_
    have L174 : ∀ (H : Heap) (locs : List Loc) (ls : Array Slot), xW G A s.heap (oW Y xo h0 h1 hh hb2 sl a0 a1 sv tz az ρ nx ct rr κ0 κ1 fl tn lt γ κ γ1 gg δ0 δ1 lf tk bt bw) H locs → lv_has ls 6 [(5, .int (nI ((y / 8) % 3))), (4, .int (nI (aB ρ y))), (3, .int (nI (ρ 4))), (0, .ref xo), (1, .int (nI x)), (2, .int (nI y))] → W p l e (xRmG 40 1500 10 60) s m args below meth c H locs 1 6 Q (F0 m 174 ls []) := by
      intro H locs ls hw hl
      refine lv_aload_n hx hb dL_act_174 rfl (lv_at hl 3 rfl) ?_
      refine lv_bipush (v := (nI 8)) hx hb dL_act_175 (by decide) ?_
      refine lv_iload hx hb dL_act_177 (lv_at hl 0 rfl) ?_
      refine lv_iconst (v := (nI 1)) hx hb dL_act_179 (by decide) ?_
      refine lv_iload_n hx hb dL_act_180 rfl (lv_at hl 5 rfl) ?_
      refine lv_bipush (v := (nI 32)) hx hb dL_act_181 (by decide) ?_
      refine x_idiv M (n := y / 32) dL_act_183 (by omega) (by omega) (by decide) rfl ?_
      refine lv_iconst (v := (nI 4)) hx hb dL_act_184 (by decide) ?_
      refine x_irem M (n := (y / 32) % 4) dL_act_185 (by omega) (by omega) (by decide) rfl ?_
      refine x_iadd M (n := 1 + ((y / 32) % 4)) dL_act_186 rfl ?_
      refine lv_iconst (v := (nI 1)) hx hb dL_act_187 (by decide) ?_
      refine lv_iload_n hx hb dL_act_188 rfl (lv_at hl 5 rfl) ?_
      refine lv_sipush (v := (nI 128)) hx hb dL_act_189 (by decide) ?_
      refine x_idiv M (n := y / 128) dL_act_192 (by omega) (by omega) (by decide) rfl ?_
      refine lv_iconst (v := (nI 4)) hx hb dL_act_193 (by decide) ?_
      refine x_irem M (n := (y / 128) % 4) dL_act_194 (by omega) (by omega) (by decide) rfl ?_
      refine x_iadd M (n := 1 + ((y / 128) % 4)) dL_act_195 rfl ?_
      refine x_cSG (As := [.ref xo, .int (nI 8), .int (nI ((y / 8) % 3)), .int (nI (1 + ((y / 32) % 4))), .int (nI (1 + ((y / 128) % 4)))]) hC cw_L_192 [0, 1, 2, 3, 4, 5, 6, 7, 8, 9, 10] M hK hZ hN hw hl.1 rfl (by decide) ⟨by show _ ≤ 40; omega, by show _ ≤ 1500; omega⟩ ⟨by show _ ≤ 10; omega, by show _ ≤ 60; omega⟩ rfl rfl (Nat.le_of_ble_eq_true rfl) dL_act_196 (fun r sg hr ha H locs hw => ?_)
      have hw : xW G A s.heap sg H locs := by rw [← xPut_all ha]; exact hw
      exact hret _ _ _ r _ _ _ _ (by show _ ≤ 10; omega) (by show _ ≤ 60; omega) dL_act_199 hw rfl ha (hpp r sg hr)
    rcases hq with hq
    · refine x_topN (n := 4) (congrArg nI hq) ?_
      refine lv_tableIn (tgt := 174) hx hb dL_act_34 (by decide) (by decide) rfl (by decide) ?_
      exact L174 _ _ _ hw hl
  refine lv_iload_n hx hb dL_act_9 rfl (lv_at hl 0 rfl) ?_
  refine x_zne M (tgt := 17) (by omega) dL_act_10 (by decide) (fun c_n => ?_) (fun c_n => ?_)
  · refine lv_iload_n hx hb dL_act_17 rfl (lv_at hl 3 rfl) ?_
    refine lv_iload_n hx hb dL_act_18 rfl (lv_at hl 0 rfl) ?_
    refine x_irem M (n := y % (ρ 4)) dL_act_19 (by omega) (by omega) (by omega) rfl ?_
    refine x_topN (n := aB ρ y) (congrArg nI (aB_1 c_n)) ?_
    refine W_widen (k := 1) (n := 6) (by omega) (by omega) ?_
    exact L20 _ _ _ hw (lv_sub hl [0, 1, 2, 3] rfl)
  refine lv_iconst (v := (nI 0)) hx hb dL_act_13 (by decide) ?_
  refine lv_goto (tgt := 20) hx hb dL_act_14 (by decide) ?_
  refine x_topN (n := aB ρ y) (congrArg nI (aB_0 c_n)) ?_
  refine W_widen (k := 1) (n := 6) (by omega) (by omega) ?_
  exact L20 _ _ _ hw (lv_sub hl [0, 1, 2, 3] rfl)
set_option maxHeartbeats 8000000 in
set_option maxRecDepth 20000 in
theorem a_price (l : Launch) (G : va_G) (Y : Nat → Nat) (xo h0 h1 hh hb2 sl a0 a1 sv tz az : Nat) (ρ : Nat → Nat) (nx : Nat) (ct : Nat) (rr : Nat → Nat → Nat) (κ0 : Nat → Nat) (κ1 : Nat → Nat) (fl : Nat → Int32) (tn : Nat) (lt : Nat → Nat) (γ : Nat → Nat → Nat) (κ : Nat → Nat) (γ1 : Nat → Nat → Nat) (gg : Nat → Nat → Nat → Nat) (δ0 : Nat → Nat → Nat) (δ1 : Nat → Nat → Nat) (lf : Nat → Nat) (tk : Nat → Int32) (bt : Nat → Int32) (bw : Int32) (x y : Nat) (hI : Inv ρ) (hxx : x < 2 ^ 31) (hyy : y < 2 ^ 31) (hq : x % 24 = 5)  {fr lo : Nat} {post post2 : Int32 → List va_W → Prop} (hC : CtG l yL_call cL_call 5 .int fr lo 1 6 [.ref xo, .int (nI 9), .int (nI ((y / 8) % 3)), .int (nI (1 + ((y / 32) % 60))), .int (nI 0)] (oW Y xo h0 h1 hh hb2 sl a0 a1 sv tz az ρ nx ct rr κ0 κ1 fl tn lt γ κ γ1 gg δ0 δ1 lf tk bt bw) post G Y) (hfr : fr ≤ 30) (hlo : lo ≤ 1000) (hpp : ∀ r sg, post r sg → post2 r sg) : CtG l yL_act cL_act 6 .int 40 1500 10 60 [.ref xo, .int (nI x), .int (nI y)] (oW Y xo h0 h1 hh hb2 sl a0 a1 sv tz az ρ nx ct rr κ0 κ1 fl tn lt γ κ γ1 gg δ0 δ1 lf tk bt bw) (post2) G Y := by
  refine x_ofG (by decide) (Nat.le_of_ble_eq_true rfl) (fun p e s m args below meth c A ls Q M hK hZ hN hw hl hret => ?_)
  obtain ⟨hx, hb, -⟩ := id M
  have hl : lv_has ls 6 [(0, .ref xo), (1, .int (nI x)), (2, .int (nI y))] := hl
  have h6 := hI.n6
  have haB := aB_le (ρ := ρ) (y := y)
  refine lv_aload_n hx hb dL_act_0 rfl (lv_at hl 0 rfl) ?_
  refine lv_iconst (v := (nI 2)) hx hb dL_act_1 (by decide) ?_
  refine lv_iconst (v := (nI 0)) hx hb dL_act_2 (by decide) ?_
  refine lv_iconst (v := (nI 0)) hx hb dL_act_3 (by decide) ?_
  refine lv_iconst (v := (nI 0)) hx hb dL_act_4 (by decide) ?_
  refine x_cSG (As := [.ref xo, .int (nI 2), .int (nI 0), .int (nI 0), .int (nI 0)]) (oK_about l G Y xo h0 h1 hh hb2 sl a0 a1 sv tz az ρ nx ct rr κ0 κ1 fl tn lt γ κ γ1 gg δ0 δ1 lf tk bt bw _ (hI) (by decide) _ _) cw_L_192 [0, 1, 2, 3, 4, 5, 6, 7, 8, 9, 10] M hK hZ hN hw hl.1 rfl (by decide) ⟨by decide, by decide⟩ ⟨by show _ ≤ 10; omega, by show _ ≤ 60; omega⟩ rfl rfl (Nat.le_of_ble_eq_true rfl) dL_act_5 (fun r sg h_1 ha H locs hw => ?_)
  obtain ⟨rfl, rfl⟩ := h_1
  have hw : xW G A s.heap (oW Y xo h0 h1 hh hb2 sl a0 a1 sv tz az ρ nx ct rr κ0 κ1 fl tn lt γ κ γ1 gg δ0 δ1 lf tk bt bw) H locs := hw
  refine x_topN (n := ρ 4) rfl ?_
  refine lv_istore_n (lv' := [(3, .int (nI (ρ 4))), (0, .ref xo), (1, .int (nI x)), (2, .int (nI y))]) hx hb dL_act_8 rfl hl (by decide) rfl (fun ls hl => ?_)
  have L20 : ∀ (H : Heap) (locs : List Loc) (ls : Array Slot), xW G A s.heap (oW Y xo h0 h1 hh hb2 sl a0 a1 sv tz az ρ nx ct rr κ0 κ1 fl tn lt γ κ γ1 gg δ0 δ1 lf tk bt bw) H locs → lv_has ls 6 [(3, .int (nI (ρ 4))), (0, .ref xo), (1, .int (nI x)), (2, .int (nI y))] → W p l e (xRmG 40 1500 10 60) s m args below meth c H locs 1 6 Q (F0 m 20 ls [.int (nI (aB ρ y))]) := by
    intro H locs ls hw hl
    refine lv_istore (lv' := [(4, .int (nI (aB ρ y))), (3, .int (nI (ρ 4))), (0, .ref xo), (1, .int (nI x)), (2, .int (nI y))]) hx hb dL_act_20 hl (by decide) rfl (fun ls hl => ?_)
    refine lv_iload_n hx hb dL_act_22 rfl (lv_at hl 4 rfl) ?_
    refine lv_bipush (v := (nI 8)) hx hb dL_act_23 (by decide) ?_
    refine x_idiv M (n := y / 8) dL_act_25 (by omega) (by omega) (by decide) rfl ?_
    refine lv_iconst (v := (nI 3)) hx hb dL_act_26 (by decide) ?_
    refine x_irem M (n := (y / 8) % 3) dL_act_27 (by omega) (by omega) (by decide) rfl ?_
    refine lv_istore (lv' := [(5, .int (nI ((y / 8) % 3))), (4, .int (nI (aB ρ y))), (3, .int (nI (ρ 4))), (0, .ref xo), (1, .int (nI x)), (2, .int (nI y))]) hx hb dL_act_28 hl (by decide) rfl (fun ls hl => ?_)
    refine lv_iload_n hx hb dL_act_30 rfl (lv_at hl 4 rfl) ?_
    refine lv_bipush (v := (nI 24)) hx hb dL_act_31 (by decide) ?_
    refine x_irem M (n := x % 24) dL_act_33 (by omega) (by omega) (by decide) rfl ?_
    have L200 : ∀ (H : Heap) (locs : List Loc) (ls : Array Slot), xW G A s.heap (oW Y xo h0 h1 hh hb2 sl a0 a1 sv tz az ρ nx ct rr κ0 κ1 fl tn lt γ κ γ1 gg δ0 δ1 lf tk bt bw) H locs → lv_has ls 6 [(5, .int (nI ((y / 8) % 3))), (4, .int (nI (aB ρ y))), (3, .int (nI (ρ 4))), (0, .ref xo), (1, .int (nI x)), (2, .int (nI y))] → W p l e (xRmG 40 1500 10 60) s m args below meth c H locs 1 6 Q (F0 m 200 ls []) := by
      intro H locs ls hw hl
      refine lv_aload_n hx hb dL_act_200 rfl (lv_at hl 3 rfl) ?_
      refine lv_bipush (v := (nI 9)) hx hb dL_act_201 (by decide) ?_
      refine lv_iload hx hb dL_act_203 (lv_at hl 0 rfl) ?_
      refine lv_iconst (v := (nI 1)) hx hb dL_act_205 (by decide) ?_
      refine lv_iload_n hx hb dL_act_206 rfl (lv_at hl 5 rfl) ?_
      refine lv_bipush (v := (nI 32)) hx hb dL_act_207 (by decide) ?_
      refine x_idiv M (n := y / 32) dL_act_209 (by omega) (by omega) (by decide) rfl ?_
      refine lv_bipush (v := (nI 60)) hx hb dL_act_210 (by decide) ?_
      refine x_irem M (n := (y / 32) % 60) dL_act_212 (by omega) (by omega) (by decide) rfl ?_
      refine x_iadd M (n := 1 + ((y / 32) % 60)) dL_act_213 rfl ?_
      refine lv_iconst (v := (nI 0)) hx hb dL_act_214 (by decide) ?_
      refine x_cSG (As := [.ref xo, .int (nI 9), .int (nI ((y / 8) % 3)), .int (nI (1 + ((y / 32) % 60))), .int (nI 0)]) hC cw_L_192 [0, 1, 2, 3, 4, 5, 6, 7, 8, 9, 10] M hK hZ hN hw hl.1 rfl (by decide) ⟨by show _ ≤ 40; omega, by show _ ≤ 1500; omega⟩ ⟨by show _ ≤ 10; omega, by show _ ≤ 60; omega⟩ rfl rfl (Nat.le_of_ble_eq_true rfl) dL_act_215 (fun r sg hr ha H locs hw => ?_)
      have hw : xW G A s.heap sg H locs := by rw [← xPut_all ha]; exact hw
      exact hret _ _ _ r _ _ _ _ (by show _ ≤ 10; omega) (by show _ ≤ 60; omega) dL_act_218 hw rfl ha (hpp r sg hr)
    rcases hq with hq
    · refine x_topN (n := 5) (congrArg nI hq) ?_
      refine lv_tableIn (tgt := 200) hx hb dL_act_34 (by decide) (by decide) rfl (by decide) ?_
      exact L200 _ _ _ hw hl
  refine lv_iload_n hx hb dL_act_9 rfl (lv_at hl 0 rfl) ?_
  refine x_zne M (tgt := 17) (by omega) dL_act_10 (by decide) (fun c_n => ?_) (fun c_n => ?_)
  · refine lv_iload_n hx hb dL_act_17 rfl (lv_at hl 3 rfl) ?_
    refine lv_iload_n hx hb dL_act_18 rfl (lv_at hl 0 rfl) ?_
    refine x_irem M (n := y % (ρ 4)) dL_act_19 (by omega) (by omega) (by omega) rfl ?_
    refine x_topN (n := aB ρ y) (congrArg nI (aB_1 c_n)) ?_
    refine W_widen (k := 1) (n := 6) (by omega) (by omega) ?_
    exact L20 _ _ _ hw (lv_sub hl [0, 1, 2, 3] rfl)
  refine lv_iconst (v := (nI 0)) hx hb dL_act_13 (by decide) ?_
  refine lv_goto (tgt := 20) hx hb dL_act_14 (by decide) ?_
  refine x_topN (n := aB ρ y) (congrArg nI (aB_0 c_n)) ?_
  refine W_widen (k := 1) (n := 6) (by omega) (by omega) ?_
  exact L20 _ _ _ hw (lv_sub hl [0, 1, 2, 3] rfl)
set_option maxHeartbeats 8000000 in
set_option maxRecDepth 20000 in
theorem a_value (l : Launch) (G : va_G) (Y : Nat → Nat) (xo h0 h1 hh hb2 sl a0 a1 sv tz az : Nat) (ρ : Nat → Nat) (nx : Nat) (ct : Nat) (rr : Nat → Nat → Nat) (κ0 : Nat → Nat) (κ1 : Nat → Nat) (fl : Nat → Int32) (tn : Nat) (lt : Nat → Nat) (γ : Nat → Nat → Nat) (κ : Nat → Nat) (γ1 : Nat → Nat → Nat) (gg : Nat → Nat → Nat → Nat) (δ0 : Nat → Nat → Nat) (δ1 : Nat → Nat → Nat) (lf : Nat → Nat) (tk : Nat → Int32) (bt : Nat → Int32) (bw : Int32) (x y : Nat) (hI : Inv ρ) (hxx : x < 2 ^ 31) (hyy : y < 2 ^ 31) (hq : x % 24 = 6 ∨ x % 24 = 7 ∨ x % 24 = 8 ∨ x % 24 = 9)  {fr lo : Nat} {post post2 : Int32 → List va_W → Prop} (hC : CtG l yL_call cL_call 5 .int fr lo 1 6 [.ref xo, .int (nI 11), .int (nI (aB ρ y)), .int (nI ((y / 8) % 3)), .int (nI ((y / 32) % 90))] (oW Y xo h0 h1 hh hb2 sl a0 a1 sv tz az ρ nx ct rr κ0 κ1 fl tn lt γ κ γ1 gg δ0 δ1 lf tk bt bw) post G Y) (hfr : fr ≤ 30) (hlo : lo ≤ 1000) (hpp : ∀ r sg, post r sg → post2 r sg) : CtG l yL_act cL_act 6 .int 40 1500 10 60 [.ref xo, .int (nI x), .int (nI y)] (oW Y xo h0 h1 hh hb2 sl a0 a1 sv tz az ρ nx ct rr κ0 κ1 fl tn lt γ κ γ1 gg δ0 δ1 lf tk bt bw) (post2) G Y := by
  refine x_ofG (by decide) (Nat.le_of_ble_eq_true rfl) (fun p e s m args below meth c A ls Q M hK hZ hN hw hl hret => ?_)
  obtain ⟨hx, hb, -⟩ := id M
  have hl : lv_has ls 6 [(0, .ref xo), (1, .int (nI x)), (2, .int (nI y))] := hl
  have h6 := hI.n6
  have haB := aB_le (ρ := ρ) (y := y)
  refine lv_aload_n hx hb dL_act_0 rfl (lv_at hl 0 rfl) ?_
  refine lv_iconst (v := (nI 2)) hx hb dL_act_1 (by decide) ?_
  refine lv_iconst (v := (nI 0)) hx hb dL_act_2 (by decide) ?_
  refine lv_iconst (v := (nI 0)) hx hb dL_act_3 (by decide) ?_
  refine lv_iconst (v := (nI 0)) hx hb dL_act_4 (by decide) ?_
  refine x_cSG (As := [.ref xo, .int (nI 2), .int (nI 0), .int (nI 0), .int (nI 0)]) (oK_about l G Y xo h0 h1 hh hb2 sl a0 a1 sv tz az ρ nx ct rr κ0 κ1 fl tn lt γ κ γ1 gg δ0 δ1 lf tk bt bw _ (hI) (by decide) _ _) cw_L_192 [0, 1, 2, 3, 4, 5, 6, 7, 8, 9, 10] M hK hZ hN hw hl.1 rfl (by decide) ⟨by decide, by decide⟩ ⟨by show _ ≤ 10; omega, by show _ ≤ 60; omega⟩ rfl rfl (Nat.le_of_ble_eq_true rfl) dL_act_5 (fun r sg h_1 ha H locs hw => ?_)
  obtain ⟨rfl, rfl⟩ := h_1
  have hw : xW G A s.heap (oW Y xo h0 h1 hh hb2 sl a0 a1 sv tz az ρ nx ct rr κ0 κ1 fl tn lt γ κ γ1 gg δ0 δ1 lf tk bt bw) H locs := hw
  refine x_topN (n := ρ 4) rfl ?_
  refine lv_istore_n (lv' := [(3, .int (nI (ρ 4))), (0, .ref xo), (1, .int (nI x)), (2, .int (nI y))]) hx hb dL_act_8 rfl hl (by decide) rfl (fun ls hl => ?_)
  have L20 : ∀ (H : Heap) (locs : List Loc) (ls : Array Slot), xW G A s.heap (oW Y xo h0 h1 hh hb2 sl a0 a1 sv tz az ρ nx ct rr κ0 κ1 fl tn lt γ κ γ1 gg δ0 δ1 lf tk bt bw) H locs → lv_has ls 6 [(3, .int (nI (ρ 4))), (0, .ref xo), (1, .int (nI x)), (2, .int (nI y))] → W p l e (xRmG 40 1500 10 60) s m args below meth c H locs 1 6 Q (F0 m 20 ls [.int (nI (aB ρ y))]) := by
    intro H locs ls hw hl
    refine lv_istore (lv' := [(4, .int (nI (aB ρ y))), (3, .int (nI (ρ 4))), (0, .ref xo), (1, .int (nI x)), (2, .int (nI y))]) hx hb dL_act_20 hl (by decide) rfl (fun ls hl => ?_)
    refine lv_iload_n hx hb dL_act_22 rfl (lv_at hl 4 rfl) ?_
    refine lv_bipush (v := (nI 8)) hx hb dL_act_23 (by decide) ?_
    refine x_idiv M (n := y / 8) dL_act_25 (by omega) (by omega) (by decide) rfl ?_
    refine lv_iconst (v := (nI 3)) hx hb dL_act_26 (by decide) ?_
    refine x_irem M (n := (y / 8) % 3) dL_act_27 (by omega) (by omega) (by decide) rfl ?_
    refine lv_istore (lv' := [(5, .int (nI ((y / 8) % 3))), (4, .int (nI (aB ρ y))), (3, .int (nI (ρ 4))), (0, .ref xo), (1, .int (nI x)), (2, .int (nI y))]) hx hb dL_act_28 hl (by decide) rfl (fun ls hl => ?_)
    refine lv_iload_n hx hb dL_act_30 rfl (lv_at hl 4 rfl) ?_
    refine lv_bipush (v := (nI 24)) hx hb dL_act_31 (by decide) ?_
    refine x_irem M (n := x % 24) dL_act_33 (by omega) (by omega) (by decide) rfl ?_
    have L219 : ∀ (H : Heap) (locs : List Loc) (ls : Array Slot), xW G A s.heap (oW Y xo h0 h1 hh hb2 sl a0 a1 sv tz az ρ nx ct rr κ0 κ1 fl tn lt γ κ γ1 gg δ0 δ1 lf tk bt bw) H locs → lv_has ls 6 [(5, .int (nI ((y / 8) % 3))), (4, .int (nI (aB ρ y))), (3, .int (nI (ρ 4))), (0, .ref xo), (1, .int (nI x)), (2, .int (nI y))] → W p l e (xRmG 40 1500 10 60) s m args below meth c H locs 1 6 Q (F0 m 219 ls []) := by
      intro H locs ls hw hl
      refine lv_aload_n hx hb dL_act_219 rfl (lv_at hl 3 rfl) ?_
      refine lv_bipush (v := (nI 11)) hx hb dL_act_220 (by decide) ?_
      refine lv_iload hx hb dL_act_222 (lv_at hl 1 rfl) ?_
      refine lv_iload hx hb dL_act_224 (lv_at hl 0 rfl) ?_
      refine lv_iload_n hx hb dL_act_226 rfl (lv_at hl 5 rfl) ?_
      refine lv_bipush (v := (nI 32)) hx hb dL_act_227 (by decide) ?_
      refine x_idiv M (n := y / 32) dL_act_229 (by omega) (by omega) (by decide) rfl ?_
      refine lv_bipush (v := (nI 90)) hx hb dL_act_230 (by decide) ?_
      refine x_irem M (n := (y / 32) % 90) dL_act_232 (by omega) (by omega) (by decide) rfl ?_
      refine x_cSG (As := [.ref xo, .int (nI 11), .int (nI (aB ρ y)), .int (nI ((y / 8) % 3)), .int (nI ((y / 32) % 90))]) hC cw_L_192 [0, 1, 2, 3, 4, 5, 6, 7, 8, 9, 10] M hK hZ hN hw hl.1 rfl (by decide) ⟨by show _ ≤ 40; omega, by show _ ≤ 1500; omega⟩ ⟨by show _ ≤ 10; omega, by show _ ≤ 60; omega⟩ rfl rfl (Nat.le_of_ble_eq_true rfl) dL_act_233 (fun r sg hr ha H locs hw => ?_)
      have hw : xW G A s.heap sg H locs := by rw [← xPut_all ha]; exact hw
      exact hret _ _ _ r _ _ _ _ (by show _ ≤ 10; omega) (by show _ ≤ 60; omega) dL_act_236 hw rfl ha (hpp r sg hr)
    rcases hq with hq | hq | hq | hq
    · refine x_topN (n := 6) (congrArg nI hq) ?_
      refine lv_tableIn (tgt := 219) hx hb dL_act_34 (by decide) (by decide) rfl (by decide) ?_
      exact L219 _ _ _ hw hl
    · refine x_topN (n := 7) (congrArg nI hq) ?_
      refine lv_tableIn (tgt := 219) hx hb dL_act_34 (by decide) (by decide) rfl (by decide) ?_
      exact L219 _ _ _ hw hl
    · refine x_topN (n := 8) (congrArg nI hq) ?_
      refine lv_tableIn (tgt := 219) hx hb dL_act_34 (by decide) (by decide) rfl (by decide) ?_
      exact L219 _ _ _ hw hl
    · refine x_topN (n := 9) (congrArg nI hq) ?_
      refine lv_tableIn (tgt := 219) hx hb dL_act_34 (by decide) (by decide) rfl (by decide) ?_
      exact L219 _ _ _ hw hl
  refine lv_iload_n hx hb dL_act_9 rfl (lv_at hl 0 rfl) ?_
  refine x_zne M (tgt := 17) (by omega) dL_act_10 (by decide) (fun c_n => ?_) (fun c_n => ?_)
  · refine lv_iload_n hx hb dL_act_17 rfl (lv_at hl 3 rfl) ?_
    refine lv_iload_n hx hb dL_act_18 rfl (lv_at hl 0 rfl) ?_
    refine x_irem M (n := y % (ρ 4)) dL_act_19 (by omega) (by omega) (by omega) rfl ?_
    refine x_topN (n := aB ρ y) (congrArg nI (aB_1 c_n)) ?_
    refine W_widen (k := 1) (n := 6) (by omega) (by omega) ?_
    exact L20 _ _ _ hw (lv_sub hl [0, 1, 2, 3] rfl)
  refine lv_iconst (v := (nI 0)) hx hb dL_act_13 (by decide) ?_
  refine lv_goto (tgt := 20) hx hb dL_act_14 (by decide) ?_
  refine x_topN (n := aB ρ y) (congrArg nI (aB_0 c_n)) ?_
  refine W_widen (k := 1) (n := 6) (by omega) (by omega) ?_
  exact L20 _ _ _ hw (lv_sub hl [0, 1, 2, 3] rfl)
set_option maxHeartbeats 8000000 in
set_option maxRecDepth 20000 in
theorem a_ask (l : Launch) (G : va_G) (Y : Nat → Nat) (xo h0 h1 hh hb2 sl a0 a1 sv tz az : Nat) (ρ : Nat → Nat) (nx : Nat) (ct : Nat) (rr : Nat → Nat → Nat) (κ0 : Nat → Nat) (κ1 : Nat → Nat) (fl : Nat → Int32) (tn : Nat) (lt : Nat → Nat) (γ : Nat → Nat → Nat) (κ : Nat → Nat) (γ1 : Nat → Nat → Nat) (gg : Nat → Nat → Nat → Nat) (δ0 : Nat → Nat → Nat) (δ1 : Nat → Nat → Nat) (lf : Nat → Nat) (tk : Nat → Int32) (bt : Nat → Int32) (bw : Int32) (x y : Nat) (hI : Inv ρ) (hxx : x < 2 ^ 31) (hyy : y < 2 ^ 31) (hq : x % 24 = 10 ∨ x % 24 = 11)  {fr lo : Nat} {post post2 : Int32 → List va_W → Prop} (hC : CtG l yL_call cL_call 5 .int fr lo 1 6 [.ref xo, .int (nI 12), .int (nI (aB ρ y)), .int (nI ((y / 8) % 3)), .int (nI ((y / 32) % 4))] (oW Y xo h0 h1 hh hb2 sl a0 a1 sv tz az ρ nx ct rr κ0 κ1 fl tn lt γ κ γ1 gg δ0 δ1 lf tk bt bw) post G Y) (hfr : fr ≤ 30) (hlo : lo ≤ 1000) (hpp : ∀ r sg, post r sg → post2 r sg) : CtG l yL_act cL_act 6 .int 40 1500 10 60 [.ref xo, .int (nI x), .int (nI y)] (oW Y xo h0 h1 hh hb2 sl a0 a1 sv tz az ρ nx ct rr κ0 κ1 fl tn lt γ κ γ1 gg δ0 δ1 lf tk bt bw) (post2) G Y := by
  refine x_ofG (by decide) (Nat.le_of_ble_eq_true rfl) (fun p e s m args below meth c A ls Q M hK hZ hN hw hl hret => ?_)
  obtain ⟨hx, hb, -⟩ := id M
  have hl : lv_has ls 6 [(0, .ref xo), (1, .int (nI x)), (2, .int (nI y))] := hl
  have h6 := hI.n6
  have haB := aB_le (ρ := ρ) (y := y)
  refine lv_aload_n hx hb dL_act_0 rfl (lv_at hl 0 rfl) ?_
  refine lv_iconst (v := (nI 2)) hx hb dL_act_1 (by decide) ?_
  refine lv_iconst (v := (nI 0)) hx hb dL_act_2 (by decide) ?_
  refine lv_iconst (v := (nI 0)) hx hb dL_act_3 (by decide) ?_
  refine lv_iconst (v := (nI 0)) hx hb dL_act_4 (by decide) ?_
  refine x_cSG (As := [.ref xo, .int (nI 2), .int (nI 0), .int (nI 0), .int (nI 0)]) (oK_about l G Y xo h0 h1 hh hb2 sl a0 a1 sv tz az ρ nx ct rr κ0 κ1 fl tn lt γ κ γ1 gg δ0 δ1 lf tk bt bw _ (hI) (by decide) _ _) cw_L_192 [0, 1, 2, 3, 4, 5, 6, 7, 8, 9, 10] M hK hZ hN hw hl.1 rfl (by decide) ⟨by decide, by decide⟩ ⟨by show _ ≤ 10; omega, by show _ ≤ 60; omega⟩ rfl rfl (Nat.le_of_ble_eq_true rfl) dL_act_5 (fun r sg h_1 ha H locs hw => ?_)
  obtain ⟨rfl, rfl⟩ := h_1
  have hw : xW G A s.heap (oW Y xo h0 h1 hh hb2 sl a0 a1 sv tz az ρ nx ct rr κ0 κ1 fl tn lt γ κ γ1 gg δ0 δ1 lf tk bt bw) H locs := hw
  refine x_topN (n := ρ 4) rfl ?_
  refine lv_istore_n (lv' := [(3, .int (nI (ρ 4))), (0, .ref xo), (1, .int (nI x)), (2, .int (nI y))]) hx hb dL_act_8 rfl hl (by decide) rfl (fun ls hl => ?_)
  have L20 : ∀ (H : Heap) (locs : List Loc) (ls : Array Slot), xW G A s.heap (oW Y xo h0 h1 hh hb2 sl a0 a1 sv tz az ρ nx ct rr κ0 κ1 fl tn lt γ κ γ1 gg δ0 δ1 lf tk bt bw) H locs → lv_has ls 6 [(3, .int (nI (ρ 4))), (0, .ref xo), (1, .int (nI x)), (2, .int (nI y))] → W p l e (xRmG 40 1500 10 60) s m args below meth c H locs 1 6 Q (F0 m 20 ls [.int (nI (aB ρ y))]) := by
    intro H locs ls hw hl
    refine lv_istore (lv' := [(4, .int (nI (aB ρ y))), (3, .int (nI (ρ 4))), (0, .ref xo), (1, .int (nI x)), (2, .int (nI y))]) hx hb dL_act_20 hl (by decide) rfl (fun ls hl => ?_)
    refine lv_iload_n hx hb dL_act_22 rfl (lv_at hl 4 rfl) ?_
    refine lv_bipush (v := (nI 8)) hx hb dL_act_23 (by decide) ?_
    refine x_idiv M (n := y / 8) dL_act_25 (by omega) (by omega) (by decide) rfl ?_
    refine lv_iconst (v := (nI 3)) hx hb dL_act_26 (by decide) ?_
    refine x_irem M (n := (y / 8) % 3) dL_act_27 (by omega) (by omega) (by decide) rfl ?_
    refine lv_istore (lv' := [(5, .int (nI ((y / 8) % 3))), (4, .int (nI (aB ρ y))), (3, .int (nI (ρ 4))), (0, .ref xo), (1, .int (nI x)), (2, .int (nI y))]) hx hb dL_act_28 hl (by decide) rfl (fun ls hl => ?_)
    refine lv_iload_n hx hb dL_act_30 rfl (lv_at hl 4 rfl) ?_
    refine lv_bipush (v := (nI 24)) hx hb dL_act_31 (by decide) ?_
    refine x_irem M (n := x % 24) dL_act_33 (by omega) (by omega) (by decide) rfl ?_
    have L237 : ∀ (H : Heap) (locs : List Loc) (ls : Array Slot), xW G A s.heap (oW Y xo h0 h1 hh hb2 sl a0 a1 sv tz az ρ nx ct rr κ0 κ1 fl tn lt γ κ γ1 gg δ0 δ1 lf tk bt bw) H locs → lv_has ls 6 [(5, .int (nI ((y / 8) % 3))), (4, .int (nI (aB ρ y))), (3, .int (nI (ρ 4))), (0, .ref xo), (1, .int (nI x)), (2, .int (nI y))] → W p l e (xRmG 40 1500 10 60) s m args below meth c H locs 1 6 Q (F0 m 237 ls []) := by
      intro H locs ls hw hl
      refine lv_aload_n hx hb dL_act_237 rfl (lv_at hl 3 rfl) ?_
      refine lv_bipush (v := (nI 12)) hx hb dL_act_238 (by decide) ?_
      refine lv_iload hx hb dL_act_240 (lv_at hl 1 rfl) ?_
      refine lv_iload hx hb dL_act_242 (lv_at hl 0 rfl) ?_
      refine lv_iload_n hx hb dL_act_244 rfl (lv_at hl 5 rfl) ?_
      refine lv_bipush (v := (nI 32)) hx hb dL_act_245 (by decide) ?_
      refine x_idiv M (n := y / 32) dL_act_247 (by omega) (by omega) (by decide) rfl ?_
      refine lv_iconst (v := (nI 4)) hx hb dL_act_248 (by decide) ?_
      refine x_irem M (n := (y / 32) % 4) dL_act_249 (by omega) (by omega) (by decide) rfl ?_
      refine x_cSG (As := [.ref xo, .int (nI 12), .int (nI (aB ρ y)), .int (nI ((y / 8) % 3)), .int (nI ((y / 32) % 4))]) hC cw_L_192 [0, 1, 2, 3, 4, 5, 6, 7, 8, 9, 10] M hK hZ hN hw hl.1 rfl (by decide) ⟨by show _ ≤ 40; omega, by show _ ≤ 1500; omega⟩ ⟨by show _ ≤ 10; omega, by show _ ≤ 60; omega⟩ rfl rfl (Nat.le_of_ble_eq_true rfl) dL_act_250 (fun r sg hr ha H locs hw => ?_)
      have hw : xW G A s.heap sg H locs := by rw [← xPut_all ha]; exact hw
      exact hret _ _ _ r _ _ _ _ (by show _ ≤ 10; omega) (by show _ ≤ 60; omega) dL_act_253 hw rfl ha (hpp r sg hr)
    rcases hq with hq | hq
    · refine x_topN (n := 10) (congrArg nI hq) ?_
      refine lv_tableIn (tgt := 237) hx hb dL_act_34 (by decide) (by decide) rfl (by decide) ?_
      exact L237 _ _ _ hw hl
    · refine x_topN (n := 11) (congrArg nI hq) ?_
      refine lv_tableIn (tgt := 237) hx hb dL_act_34 (by decide) (by decide) rfl (by decide) ?_
      exact L237 _ _ _ hw hl
  refine lv_iload_n hx hb dL_act_9 rfl (lv_at hl 0 rfl) ?_
  refine x_zne M (tgt := 17) (by omega) dL_act_10 (by decide) (fun c_n => ?_) (fun c_n => ?_)
  · refine lv_iload_n hx hb dL_act_17 rfl (lv_at hl 3 rfl) ?_
    refine lv_iload_n hx hb dL_act_18 rfl (lv_at hl 0 rfl) ?_
    refine x_irem M (n := y % (ρ 4)) dL_act_19 (by omega) (by omega) (by omega) rfl ?_
    refine x_topN (n := aB ρ y) (congrArg nI (aB_1 c_n)) ?_
    refine W_widen (k := 1) (n := 6) (by omega) (by omega) ?_
    exact L20 _ _ _ hw (lv_sub hl [0, 1, 2, 3] rfl)
  refine lv_iconst (v := (nI 0)) hx hb dL_act_13 (by decide) ?_
  refine lv_goto (tgt := 20) hx hb dL_act_14 (by decide) ?_
  refine x_topN (n := aB ρ y) (congrArg nI (aB_0 c_n)) ?_
  refine W_widen (k := 1) (n := 6) (by omega) (by omega) ?_
  exact L20 _ _ _ hw (lv_sub hl [0, 1, 2, 3] rfl)
set_option maxHeartbeats 8000000 in
set_option maxRecDepth 20000 in
theorem a_bid (l : Launch) (G : va_G) (Y : Nat → Nat) (xo h0 h1 hh hb2 sl a0 a1 sv tz az : Nat) (ρ : Nat → Nat) (nx : Nat) (ct : Nat) (rr : Nat → Nat → Nat) (κ0 : Nat → Nat) (κ1 : Nat → Nat) (fl : Nat → Int32) (tn : Nat) (lt : Nat → Nat) (γ : Nat → Nat → Nat) (κ : Nat → Nat) (γ1 : Nat → Nat → Nat) (gg : Nat → Nat → Nat → Nat) (δ0 : Nat → Nat → Nat) (δ1 : Nat → Nat → Nat) (lf : Nat → Nat) (tk : Nat → Int32) (bt : Nat → Int32) (bw : Int32) (x y : Nat) (hI : Inv ρ) (hxx : x < 2 ^ 31) (hyy : y < 2 ^ 31) (hq : x % 24 = 12 ∨ x % 24 = 13 ∨ x % 24 = 14)  {fr lo : Nat} {post post2 : Int32 → List va_W → Prop} (hC : CtG l yL_call cL_call 5 .int fr lo 1 6 [.ref xo, .int (nI 13), .int (nI (aB ρ y)), .int (nI 0), .int (nI 0)] (oW Y xo h0 h1 hh hb2 sl a0 a1 sv tz az ρ nx ct rr κ0 κ1 fl tn lt γ κ γ1 gg δ0 δ1 lf tk bt bw) post G Y) (hfr : fr ≤ 30) (hlo : lo ≤ 1000) (hpp : ∀ r sg, post r sg → post2 r sg) : CtG l yL_act cL_act 6 .int 40 1500 10 60 [.ref xo, .int (nI x), .int (nI y)] (oW Y xo h0 h1 hh hb2 sl a0 a1 sv tz az ρ nx ct rr κ0 κ1 fl tn lt γ κ γ1 gg δ0 δ1 lf tk bt bw) (post2) G Y := by
  refine x_ofG (by decide) (Nat.le_of_ble_eq_true rfl) (fun p e s m args below meth c A ls Q M hK hZ hN hw hl hret => ?_)
  obtain ⟨hx, hb, -⟩ := id M
  have hl : lv_has ls 6 [(0, .ref xo), (1, .int (nI x)), (2, .int (nI y))] := hl
  have h6 := hI.n6
  have haB := aB_le (ρ := ρ) (y := y)
  refine lv_aload_n hx hb dL_act_0 rfl (lv_at hl 0 rfl) ?_
  refine lv_iconst (v := (nI 2)) hx hb dL_act_1 (by decide) ?_
  refine lv_iconst (v := (nI 0)) hx hb dL_act_2 (by decide) ?_
  refine lv_iconst (v := (nI 0)) hx hb dL_act_3 (by decide) ?_
  refine lv_iconst (v := (nI 0)) hx hb dL_act_4 (by decide) ?_
  refine x_cSG (As := [.ref xo, .int (nI 2), .int (nI 0), .int (nI 0), .int (nI 0)]) (oK_about l G Y xo h0 h1 hh hb2 sl a0 a1 sv tz az ρ nx ct rr κ0 κ1 fl tn lt γ κ γ1 gg δ0 δ1 lf tk bt bw _ (hI) (by decide) _ _) cw_L_192 [0, 1, 2, 3, 4, 5, 6, 7, 8, 9, 10] M hK hZ hN hw hl.1 rfl (by decide) ⟨by decide, by decide⟩ ⟨by show _ ≤ 10; omega, by show _ ≤ 60; omega⟩ rfl rfl (Nat.le_of_ble_eq_true rfl) dL_act_5 (fun r sg h_1 ha H locs hw => ?_)
  obtain ⟨rfl, rfl⟩ := h_1
  have hw : xW G A s.heap (oW Y xo h0 h1 hh hb2 sl a0 a1 sv tz az ρ nx ct rr κ0 κ1 fl tn lt γ κ γ1 gg δ0 δ1 lf tk bt bw) H locs := hw
  refine x_topN (n := ρ 4) rfl ?_
  refine lv_istore_n (lv' := [(3, .int (nI (ρ 4))), (0, .ref xo), (1, .int (nI x)), (2, .int (nI y))]) hx hb dL_act_8 rfl hl (by decide) rfl (fun ls hl => ?_)
  have L20 : ∀ (H : Heap) (locs : List Loc) (ls : Array Slot), xW G A s.heap (oW Y xo h0 h1 hh hb2 sl a0 a1 sv tz az ρ nx ct rr κ0 κ1 fl tn lt γ κ γ1 gg δ0 δ1 lf tk bt bw) H locs → lv_has ls 6 [(3, .int (nI (ρ 4))), (0, .ref xo), (1, .int (nI x)), (2, .int (nI y))] → W p l e (xRmG 40 1500 10 60) s m args below meth c H locs 1 6 Q (F0 m 20 ls [.int (nI (aB ρ y))]) := by
    intro H locs ls hw hl
    refine lv_istore (lv' := [(4, .int (nI (aB ρ y))), (3, .int (nI (ρ 4))), (0, .ref xo), (1, .int (nI x)), (2, .int (nI y))]) hx hb dL_act_20 hl (by decide) rfl (fun ls hl => ?_)
    refine lv_iload_n hx hb dL_act_22 rfl (lv_at hl 4 rfl) ?_
    refine lv_bipush (v := (nI 8)) hx hb dL_act_23 (by decide) ?_
    refine x_idiv M (n := y / 8) dL_act_25 (by omega) (by omega) (by decide) rfl ?_
    refine lv_iconst (v := (nI 3)) hx hb dL_act_26 (by decide) ?_
    refine x_irem M (n := (y / 8) % 3) dL_act_27 (by omega) (by omega) (by decide) rfl ?_
    refine lv_istore (lv' := [(5, .int (nI ((y / 8) % 3))), (4, .int (nI (aB ρ y))), (3, .int (nI (ρ 4))), (0, .ref xo), (1, .int (nI x)), (2, .int (nI y))]) hx hb dL_act_28 hl (by decide) rfl (fun ls hl => ?_)
    refine lv_iload_n hx hb dL_act_30 rfl (lv_at hl 4 rfl) ?_
    refine lv_bipush (v := (nI 24)) hx hb dL_act_31 (by decide) ?_
    refine x_irem M (n := x % 24) dL_act_33 (by omega) (by omega) (by decide) rfl ?_
    have L254 : ∀ (H : Heap) (locs : List Loc) (ls : Array Slot), xW G A s.heap (oW Y xo h0 h1 hh hb2 sl a0 a1 sv tz az ρ nx ct rr κ0 κ1 fl tn lt γ κ γ1 gg δ0 δ1 lf tk bt bw) H locs → lv_has ls 6 [(5, .int (nI ((y / 8) % 3))), (4, .int (nI (aB ρ y))), (3, .int (nI (ρ 4))), (0, .ref xo), (1, .int (nI x)), (2, .int (nI y))] → W p l e (xRmG 40 1500 10 60) s m args below meth c H locs 1 6 Q (F0 m 254 ls []) := by
      intro H locs ls hw hl
      refine lv_aload_n hx hb dL_act_254 rfl (lv_at hl 3 rfl) ?_
      refine lv_bipush (v := (nI 13)) hx hb dL_act_255 (by decide) ?_
      refine lv_iload hx hb dL_act_257 (lv_at hl 1 rfl) ?_
      refine lv_iconst (v := (nI 0)) hx hb dL_act_259 (by decide) ?_
      refine lv_iconst (v := (nI 0)) hx hb dL_act_260 (by decide) ?_
      refine x_cSG (As := [.ref xo, .int (nI 13), .int (nI (aB ρ y)), .int (nI 0), .int (nI 0)]) hC cw_L_192 [0, 1, 2, 3, 4, 5, 6, 7, 8, 9, 10] M hK hZ hN hw hl.1 rfl (by decide) ⟨by show _ ≤ 40; omega, by show _ ≤ 1500; omega⟩ ⟨by show _ ≤ 10; omega, by show _ ≤ 60; omega⟩ rfl rfl (Nat.le_of_ble_eq_true rfl) dL_act_261 (fun r sg hr ha H locs hw => ?_)
      have hw : xW G A s.heap sg H locs := by rw [← xPut_all ha]; exact hw
      exact hret _ _ _ r _ _ _ _ (by show _ ≤ 10; omega) (by show _ ≤ 60; omega) dL_act_264 hw rfl ha (hpp r sg hr)
    rcases hq with hq | hq | hq
    · refine x_topN (n := 12) (congrArg nI hq) ?_
      refine lv_tableIn (tgt := 254) hx hb dL_act_34 (by decide) (by decide) rfl (by decide) ?_
      exact L254 _ _ _ hw hl
    · refine x_topN (n := 13) (congrArg nI hq) ?_
      refine lv_tableIn (tgt := 254) hx hb dL_act_34 (by decide) (by decide) rfl (by decide) ?_
      exact L254 _ _ _ hw hl
    · refine x_topN (n := 14) (congrArg nI hq) ?_
      refine lv_tableIn (tgt := 254) hx hb dL_act_34 (by decide) (by decide) rfl (by decide) ?_
      exact L254 _ _ _ hw hl
  refine lv_iload_n hx hb dL_act_9 rfl (lv_at hl 0 rfl) ?_
  refine x_zne M (tgt := 17) (by omega) dL_act_10 (by decide) (fun c_n => ?_) (fun c_n => ?_)
  · refine lv_iload_n hx hb dL_act_17 rfl (lv_at hl 3 rfl) ?_
    refine lv_iload_n hx hb dL_act_18 rfl (lv_at hl 0 rfl) ?_
    refine x_irem M (n := y % (ρ 4)) dL_act_19 (by omega) (by omega) (by omega) rfl ?_
    refine x_topN (n := aB ρ y) (congrArg nI (aB_1 c_n)) ?_
    refine W_widen (k := 1) (n := 6) (by omega) (by omega) ?_
    exact L20 _ _ _ hw (lv_sub hl [0, 1, 2, 3] rfl)
  refine lv_iconst (v := (nI 0)) hx hb dL_act_13 (by decide) ?_
  refine lv_goto (tgt := 20) hx hb dL_act_14 (by decide) ?_
  refine x_topN (n := aB ρ y) (congrArg nI (aB_0 c_n)) ?_
  refine W_widen (k := 1) (n := 6) (by omega) (by omega) ?_
  exact L20 _ _ _ hw (lv_sub hl [0, 1, 2, 3] rfl)
set_option maxHeartbeats 8000000 in
set_option maxRecDepth 20000 in
theorem a_close (l : Launch) (G : va_G) (Y : Nat → Nat) (xo h0 h1 hh hb2 sl a0 a1 sv tz az : Nat) (ρ : Nat → Nat) (nx : Nat) (ct : Nat) (rr : Nat → Nat → Nat) (κ0 : Nat → Nat) (κ1 : Nat → Nat) (fl : Nat → Int32) (tn : Nat) (lt : Nat → Nat) (γ : Nat → Nat → Nat) (κ : Nat → Nat) (γ1 : Nat → Nat → Nat) (gg : Nat → Nat → Nat → Nat) (δ0 : Nat → Nat → Nat) (δ1 : Nat → Nat → Nat) (lf : Nat → Nat) (tk : Nat → Int32) (bt : Nat → Int32) (bw : Int32) (x y : Nat) (hI : Inv ρ) (hxx : x < 2 ^ 31) (hyy : y < 2 ^ 31) (hq : x % 24 = 15 ∨ x % 24 = 16)  {fr lo : Nat} {post post2 : Int32 → List va_W → Prop} (hC : CtG l yL_call cL_call 5 .int fr lo 1 6 [.ref xo, .int (nI 14), .int (nI 0), .int (nI 0), .int (nI 0)] (oW Y xo h0 h1 hh hb2 sl a0 a1 sv tz az ρ nx ct rr κ0 κ1 fl tn lt γ κ γ1 gg δ0 δ1 lf tk bt bw) post G Y) (hfr : fr ≤ 30) (hlo : lo ≤ 1000) (hpp : ∀ r sg, post r sg → post2 r sg) : CtG l yL_act cL_act 6 .int 40 1500 10 60 [.ref xo, .int (nI x), .int (nI y)] (oW Y xo h0 h1 hh hb2 sl a0 a1 sv tz az ρ nx ct rr κ0 κ1 fl tn lt γ κ γ1 gg δ0 δ1 lf tk bt bw) (post2) G Y := by
  refine x_ofG (by decide) (Nat.le_of_ble_eq_true rfl) (fun p e s m args below meth c A ls Q M hK hZ hN hw hl hret => ?_)
  obtain ⟨hx, hb, -⟩ := id M
  have hl : lv_has ls 6 [(0, .ref xo), (1, .int (nI x)), (2, .int (nI y))] := hl
  have h6 := hI.n6
  have haB := aB_le (ρ := ρ) (y := y)
  refine lv_aload_n hx hb dL_act_0 rfl (lv_at hl 0 rfl) ?_
  refine lv_iconst (v := (nI 2)) hx hb dL_act_1 (by decide) ?_
  refine lv_iconst (v := (nI 0)) hx hb dL_act_2 (by decide) ?_
  refine lv_iconst (v := (nI 0)) hx hb dL_act_3 (by decide) ?_
  refine lv_iconst (v := (nI 0)) hx hb dL_act_4 (by decide) ?_
  refine x_cSG (As := [.ref xo, .int (nI 2), .int (nI 0), .int (nI 0), .int (nI 0)]) (oK_about l G Y xo h0 h1 hh hb2 sl a0 a1 sv tz az ρ nx ct rr κ0 κ1 fl tn lt γ κ γ1 gg δ0 δ1 lf tk bt bw _ (hI) (by decide) _ _) cw_L_192 [0, 1, 2, 3, 4, 5, 6, 7, 8, 9, 10] M hK hZ hN hw hl.1 rfl (by decide) ⟨by decide, by decide⟩ ⟨by show _ ≤ 10; omega, by show _ ≤ 60; omega⟩ rfl rfl (Nat.le_of_ble_eq_true rfl) dL_act_5 (fun r sg h_1 ha H locs hw => ?_)
  obtain ⟨rfl, rfl⟩ := h_1
  have hw : xW G A s.heap (oW Y xo h0 h1 hh hb2 sl a0 a1 sv tz az ρ nx ct rr κ0 κ1 fl tn lt γ κ γ1 gg δ0 δ1 lf tk bt bw) H locs := hw
  refine x_topN (n := ρ 4) rfl ?_
  refine lv_istore_n (lv' := [(3, .int (nI (ρ 4))), (0, .ref xo), (1, .int (nI x)), (2, .int (nI y))]) hx hb dL_act_8 rfl hl (by decide) rfl (fun ls hl => ?_)
  have L20 : ∀ (H : Heap) (locs : List Loc) (ls : Array Slot), xW G A s.heap (oW Y xo h0 h1 hh hb2 sl a0 a1 sv tz az ρ nx ct rr κ0 κ1 fl tn lt γ κ γ1 gg δ0 δ1 lf tk bt bw) H locs → lv_has ls 6 [(3, .int (nI (ρ 4))), (0, .ref xo), (1, .int (nI x)), (2, .int (nI y))] → W p l e (xRmG 40 1500 10 60) s m args below meth c H locs 1 6 Q (F0 m 20 ls [.int (nI (aB ρ y))]) := by
    intro H locs ls hw hl
    refine lv_istore (lv' := [(4, .int (nI (aB ρ y))), (3, .int (nI (ρ 4))), (0, .ref xo), (1, .int (nI x)), (2, .int (nI y))]) hx hb dL_act_20 hl (by decide) rfl (fun ls hl => ?_)
    refine lv_iload_n hx hb dL_act_22 rfl (lv_at hl 4 rfl) ?_
    refine lv_bipush (v := (nI 8)) hx hb dL_act_23 (by decide) ?_
    refine x_idiv M (n := y / 8) dL_act_25 (by omega) (by omega) (by decide) rfl ?_
    refine lv_iconst (v := (nI 3)) hx hb dL_act_26 (by decide) ?_
    refine x_irem M (n := (y / 8) % 3) dL_act_27 (by omega) (by omega) (by decide) rfl ?_
    refine lv_istore (lv' := [(5, .int (nI ((y / 8) % 3))), (4, .int (nI (aB ρ y))), (3, .int (nI (ρ 4))), (0, .ref xo), (1, .int (nI x)), (2, .int (nI y))]) hx hb dL_act_28 hl (by decide) rfl (fun ls hl => ?_)
    refine lv_iload_n hx hb dL_act_30 rfl (lv_at hl 4 rfl) ?_
    refine lv_bipush (v := (nI 24)) hx hb dL_act_31 (by decide) ?_
    refine x_irem M (n := x % 24) dL_act_33 (by omega) (by omega) (by decide) rfl ?_
    have L265 : ∀ (H : Heap) (locs : List Loc) (ls : Array Slot), xW G A s.heap (oW Y xo h0 h1 hh hb2 sl a0 a1 sv tz az ρ nx ct rr κ0 κ1 fl tn lt γ κ γ1 gg δ0 δ1 lf tk bt bw) H locs → lv_has ls 6 [(5, .int (nI ((y / 8) % 3))), (4, .int (nI (aB ρ y))), (3, .int (nI (ρ 4))), (0, .ref xo), (1, .int (nI x)), (2, .int (nI y))] → W p l e (xRmG 40 1500 10 60) s m args below meth c H locs 1 6 Q (F0 m 265 ls []) := by
      intro H locs ls hw hl
      refine lv_aload_n hx hb dL_act_265 rfl (lv_at hl 3 rfl) ?_
      refine lv_bipush (v := (nI 14)) hx hb dL_act_266 (by decide) ?_
      refine lv_iconst (v := (nI 0)) hx hb dL_act_268 (by decide) ?_
      refine lv_iconst (v := (nI 0)) hx hb dL_act_269 (by decide) ?_
      refine lv_iconst (v := (nI 0)) hx hb dL_act_270 (by decide) ?_
      refine x_cSG (As := [.ref xo, .int (nI 14), .int (nI 0), .int (nI 0), .int (nI 0)]) hC cw_L_192 [0, 1, 2, 3, 4, 5, 6, 7, 8, 9, 10] M hK hZ hN hw hl.1 rfl (by decide) ⟨by show _ ≤ 40; omega, by show _ ≤ 1500; omega⟩ ⟨by show _ ≤ 10; omega, by show _ ≤ 60; omega⟩ rfl rfl (Nat.le_of_ble_eq_true rfl) dL_act_271 (fun r sg hr ha H locs hw => ?_)
      have hw : xW G A s.heap sg H locs := by rw [← xPut_all ha]; exact hw
      exact hret _ _ _ r _ _ _ _ (by show _ ≤ 10; omega) (by show _ ≤ 60; omega) dL_act_274 hw rfl ha (hpp r sg hr)
    rcases hq with hq | hq
    · refine x_topN (n := 15) (congrArg nI hq) ?_
      refine lv_tableIn (tgt := 265) hx hb dL_act_34 (by decide) (by decide) rfl (by decide) ?_
      exact L265 _ _ _ hw hl
    · refine x_topN (n := 16) (congrArg nI hq) ?_
      refine lv_tableIn (tgt := 265) hx hb dL_act_34 (by decide) (by decide) rfl (by decide) ?_
      exact L265 _ _ _ hw hl
  refine lv_iload_n hx hb dL_act_9 rfl (lv_at hl 0 rfl) ?_
  refine x_zne M (tgt := 17) (by omega) dL_act_10 (by decide) (fun c_n => ?_) (fun c_n => ?_)
  · refine lv_iload_n hx hb dL_act_17 rfl (lv_at hl 3 rfl) ?_
    refine lv_iload_n hx hb dL_act_18 rfl (lv_at hl 0 rfl) ?_
    refine x_irem M (n := y % (ρ 4)) dL_act_19 (by omega) (by omega) (by omega) rfl ?_
    refine x_topN (n := aB ρ y) (congrArg nI (aB_1 c_n)) ?_
    refine W_widen (k := 1) (n := 6) (by omega) (by omega) ?_
    exact L20 _ _ _ hw (lv_sub hl [0, 1, 2, 3] rfl)
  refine lv_iconst (v := (nI 0)) hx hb dL_act_13 (by decide) ?_
  refine lv_goto (tgt := 20) hx hb dL_act_14 (by decide) ?_
  refine x_topN (n := aB ρ y) (congrArg nI (aB_0 c_n)) ?_
  refine W_widen (k := 1) (n := 6) (by omega) (by omega) ?_
  exact L20 _ _ _ hw (lv_sub hl [0, 1, 2, 3] rfl)
set_option maxHeartbeats 8000000 in
set_option maxRecDepth 20000 in
theorem a_set0 (l : Launch) (G : va_G) (Y : Nat → Nat) (xo h0 h1 hh hb2 sl a0 a1 sv tz az : Nat) (ρ : Nat → Nat) (nx : Nat) (ct : Nat) (rr : Nat → Nat → Nat) (κ0 : Nat → Nat) (κ1 : Nat → Nat) (fl : Nat → Int32) (tn : Nat) (lt : Nat → Nat) (γ : Nat → Nat → Nat) (κ : Nat → Nat) (γ1 : Nat → Nat → Nat) (gg : Nat → Nat → Nat → Nat) (δ0 : Nat → Nat → Nat) (δ1 : Nat → Nat → Nat) (lf : Nat → Nat) (tk : Nat → Int32) (bt : Nat → Int32) (bw : Int32) (x y : Nat) (hI : Inv ρ) (hxx : x < 2 ^ 31) (hyy : y < 2 ^ 31) (hq : x % 24 = 17) (hy2 : y % 2 = 0) {fr lo : Nat} {post post2 : Int32 → List va_W → Prop} (hC : CtG l yL_call cL_call 5 .int fr lo 1 6 [.ref xo, .int (nI 16), .int (nI (y % 2)), .int (nI (50 + ((y / 2) % 51))), .int (nI 0)] (oW Y xo h0 h1 hh hb2 sl a0 a1 sv tz az ρ nx ct rr κ0 κ1 fl tn lt γ κ γ1 gg δ0 δ1 lf tk bt bw) post G Y) (hfr : fr ≤ 30) (hlo : lo ≤ 1000) (hpp : ∀ r sg, post r sg → post2 r sg) : CtG l yL_act cL_act 6 .int 40 1500 10 60 [.ref xo, .int (nI x), .int (nI y)] (oW Y xo h0 h1 hh hb2 sl a0 a1 sv tz az ρ nx ct rr κ0 κ1 fl tn lt γ κ γ1 gg δ0 δ1 lf tk bt bw) (post2) G Y := by
  refine x_ofG (by decide) (Nat.le_of_ble_eq_true rfl) (fun p e s m args below meth c A ls Q M hK hZ hN hw hl hret => ?_)
  obtain ⟨hx, hb, -⟩ := id M
  have hl : lv_has ls 6 [(0, .ref xo), (1, .int (nI x)), (2, .int (nI y))] := hl
  have h6 := hI.n6
  have haB := aB_le (ρ := ρ) (y := y)
  refine lv_aload_n hx hb dL_act_0 rfl (lv_at hl 0 rfl) ?_
  refine lv_iconst (v := (nI 2)) hx hb dL_act_1 (by decide) ?_
  refine lv_iconst (v := (nI 0)) hx hb dL_act_2 (by decide) ?_
  refine lv_iconst (v := (nI 0)) hx hb dL_act_3 (by decide) ?_
  refine lv_iconst (v := (nI 0)) hx hb dL_act_4 (by decide) ?_
  refine x_cSG (As := [.ref xo, .int (nI 2), .int (nI 0), .int (nI 0), .int (nI 0)]) (oK_about l G Y xo h0 h1 hh hb2 sl a0 a1 sv tz az ρ nx ct rr κ0 κ1 fl tn lt γ κ γ1 gg δ0 δ1 lf tk bt bw _ (hI) (by decide) _ _) cw_L_192 [0, 1, 2, 3, 4, 5, 6, 7, 8, 9, 10] M hK hZ hN hw hl.1 rfl (by decide) ⟨by decide, by decide⟩ ⟨by show _ ≤ 10; omega, by show _ ≤ 60; omega⟩ rfl rfl (Nat.le_of_ble_eq_true rfl) dL_act_5 (fun r sg h_1 ha H locs hw => ?_)
  obtain ⟨rfl, rfl⟩ := h_1
  have hw : xW G A s.heap (oW Y xo h0 h1 hh hb2 sl a0 a1 sv tz az ρ nx ct rr κ0 κ1 fl tn lt γ κ γ1 gg δ0 δ1 lf tk bt bw) H locs := hw
  refine x_topN (n := ρ 4) rfl ?_
  refine lv_istore_n (lv' := [(3, .int (nI (ρ 4))), (0, .ref xo), (1, .int (nI x)), (2, .int (nI y))]) hx hb dL_act_8 rfl hl (by decide) rfl (fun ls hl => ?_)
  have L20 : ∀ (H : Heap) (locs : List Loc) (ls : Array Slot), xW G A s.heap (oW Y xo h0 h1 hh hb2 sl a0 a1 sv tz az ρ nx ct rr κ0 κ1 fl tn lt γ κ γ1 gg δ0 δ1 lf tk bt bw) H locs → lv_has ls 6 [(3, .int (nI (ρ 4))), (0, .ref xo), (1, .int (nI x)), (2, .int (nI y))] → W p l e (xRmG 40 1500 10 60) s m args below meth c H locs 1 6 Q (F0 m 20 ls [.int (nI (aB ρ y))]) := by
    intro H locs ls hw hl
    refine lv_istore (lv' := [(4, .int (nI (aB ρ y))), (3, .int (nI (ρ 4))), (0, .ref xo), (1, .int (nI x)), (2, .int (nI y))]) hx hb dL_act_20 hl (by decide) rfl (fun ls hl => ?_)
    refine lv_iload_n hx hb dL_act_22 rfl (lv_at hl 4 rfl) ?_
    refine lv_bipush (v := (nI 8)) hx hb dL_act_23 (by decide) ?_
    refine x_idiv M (n := y / 8) dL_act_25 (by omega) (by omega) (by decide) rfl ?_
    refine lv_iconst (v := (nI 3)) hx hb dL_act_26 (by decide) ?_
    refine x_irem M (n := (y / 8) % 3) dL_act_27 (by omega) (by omega) (by decide) rfl ?_
    refine lv_istore (lv' := [(5, .int (nI ((y / 8) % 3))), (4, .int (nI (aB ρ y))), (3, .int (nI (ρ 4))), (0, .ref xo), (1, .int (nI x)), (2, .int (nI y))]) hx hb dL_act_28 hl (by decide) rfl (fun ls hl => ?_)
    refine lv_iload_n hx hb dL_act_30 rfl (lv_at hl 4 rfl) ?_
    refine lv_bipush (v := (nI 24)) hx hb dL_act_31 (by decide) ?_
    refine x_irem M (n := x % 24) dL_act_33 (by omega) (by omega) (by decide) rfl ?_
    have L275 : ∀ (H : Heap) (locs : List Loc) (ls : Array Slot), xW G A s.heap (oW Y xo h0 h1 hh hb2 sl a0 a1 sv tz az ρ nx ct rr κ0 κ1 fl tn lt γ κ γ1 gg δ0 δ1 lf tk bt bw) H locs → lv_has ls 6 [(5, .int (nI ((y / 8) % 3))), (4, .int (nI (aB ρ y))), (3, .int (nI (ρ 4))), (0, .ref xo), (1, .int (nI x)), (2, .int (nI y))] → W p l e (xRmG 40 1500 10 60) s m args below meth c H locs 1 6 Q (F0 m 275 ls []) := by
      intro H locs ls hw hl
      refine lv_aload_n hx hb dL_act_275 rfl (lv_at hl 3 rfl) ?_
      refine lv_bipush (v := (nI 16)) hx hb dL_act_276 (by decide) ?_
      refine lv_iload_n hx hb dL_act_278 rfl (lv_at hl 5 rfl) ?_
      refine lv_iconst (v := (nI 2)) hx hb dL_act_279 (by decide) ?_
      refine x_irem M (n := y % 2) dL_act_280 (by omega) (by omega) (by decide) rfl ?_
      refine lv_iload_n hx hb dL_act_281 rfl (lv_at hl 5 rfl) ?_
      refine lv_iconst (v := (nI 2)) hx hb dL_act_282 (by decide) ?_
      refine x_irem M (n := y % 2) dL_act_283 (by omega) (by omega) (by decide) rfl ?_
      refine x_zne M (tgt := 299) (by omega) dL_act_284 (by decide) (fun c_2 => by exfalso; omega) (fun c_2 => ?_)
      refine lv_bipush (v := (nI 50)) hx hb dL_act_287 (by decide) ?_
      refine lv_iload_n hx hb dL_act_289 rfl (lv_at hl 5 rfl) ?_
      refine lv_iconst (v := (nI 2)) hx hb dL_act_290 (by decide) ?_
      refine x_idiv M (n := y / 2) dL_act_291 (by omega) (by omega) (by decide) rfl ?_
      refine lv_bipush (v := (nI 51)) hx hb dL_act_292 (by decide) ?_
      refine x_irem M (n := (y / 2) % 51) dL_act_294 (by omega) (by omega) (by decide) rfl ?_
      refine x_iadd M (n := 50 + ((y / 2) % 51)) dL_act_295 rfl ?_
      refine lv_goto (tgt := 308) hx hb dL_act_296 (by decide) ?_
      refine lv_iconst (v := (nI 0)) hx hb dL_act_308 (by decide) ?_
      refine x_cSG (As := [.ref xo, .int (nI 16), .int (nI (y % 2)), .int (nI (50 + ((y / 2) % 51))), .int (nI 0)]) hC cw_L_192 [0, 1, 2, 3, 4, 5, 6, 7, 8, 9, 10] M hK hZ hN hw hl.1 rfl (by decide) ⟨by show _ ≤ 40; omega, by show _ ≤ 1500; omega⟩ ⟨by show _ ≤ 10; omega, by show _ ≤ 60; omega⟩ rfl rfl (Nat.le_of_ble_eq_true rfl) dL_act_309 (fun r sg hr ha H locs hw => ?_)
      have hw : xW G A s.heap sg H locs := by rw [← xPut_all ha]; exact hw
      exact hret _ _ _ r _ _ _ _ (by show _ ≤ 10; omega) (by show _ ≤ 60; omega) dL_act_312 hw rfl ha (hpp r sg hr)
    rcases hq with hq
    · refine x_topN (n := 17) (congrArg nI hq) ?_
      refine lv_tableIn (tgt := 275) hx hb dL_act_34 (by decide) (by decide) rfl (by decide) ?_
      exact L275 _ _ _ hw hl
  refine lv_iload_n hx hb dL_act_9 rfl (lv_at hl 0 rfl) ?_
  refine x_zne M (tgt := 17) (by omega) dL_act_10 (by decide) (fun c_n => ?_) (fun c_n => ?_)
  · refine lv_iload_n hx hb dL_act_17 rfl (lv_at hl 3 rfl) ?_
    refine lv_iload_n hx hb dL_act_18 rfl (lv_at hl 0 rfl) ?_
    refine x_irem M (n := y % (ρ 4)) dL_act_19 (by omega) (by omega) (by omega) rfl ?_
    refine x_topN (n := aB ρ y) (congrArg nI (aB_1 c_n)) ?_
    refine W_widen (k := 1) (n := 6) (by omega) (by omega) ?_
    exact L20 _ _ _ hw (lv_sub hl [0, 1, 2, 3] rfl)
  refine lv_iconst (v := (nI 0)) hx hb dL_act_13 (by decide) ?_
  refine lv_goto (tgt := 20) hx hb dL_act_14 (by decide) ?_
  refine x_topN (n := aB ρ y) (congrArg nI (aB_0 c_n)) ?_
  refine W_widen (k := 1) (n := 6) (by omega) (by omega) ?_
  exact L20 _ _ _ hw (lv_sub hl [0, 1, 2, 3] rfl)
set_option maxHeartbeats 8000000 in
set_option maxRecDepth 20000 in
theorem a_set1 (l : Launch) (G : va_G) (Y : Nat → Nat) (xo h0 h1 hh hb2 sl a0 a1 sv tz az : Nat) (ρ : Nat → Nat) (nx : Nat) (ct : Nat) (rr : Nat → Nat → Nat) (κ0 : Nat → Nat) (κ1 : Nat → Nat) (fl : Nat → Int32) (tn : Nat) (lt : Nat → Nat) (γ : Nat → Nat → Nat) (κ : Nat → Nat) (γ1 : Nat → Nat → Nat) (gg : Nat → Nat → Nat → Nat) (δ0 : Nat → Nat → Nat) (δ1 : Nat → Nat → Nat) (lf : Nat → Nat) (tk : Nat → Int32) (bt : Nat → Int32) (bw : Int32) (x y : Nat) (hI : Inv ρ) (hxx : x < 2 ^ 31) (hyy : y < 2 ^ 31) (hq : x % 24 = 17) (hy2 : 0 < y % 2) {fr lo : Nat} {post post2 : Int32 → List va_W → Prop} (hC : CtG l yL_call cL_call 5 .int fr lo 1 6 [.ref xo, .int (nI 16), .int (nI (y % 2)), .int (nI (10 + ((y / 2) % 41))), .int (nI 0)] (oW Y xo h0 h1 hh hb2 sl a0 a1 sv tz az ρ nx ct rr κ0 κ1 fl tn lt γ κ γ1 gg δ0 δ1 lf tk bt bw) post G Y) (hfr : fr ≤ 30) (hlo : lo ≤ 1000) (hpp : ∀ r sg, post r sg → post2 r sg) : CtG l yL_act cL_act 6 .int 40 1500 10 60 [.ref xo, .int (nI x), .int (nI y)] (oW Y xo h0 h1 hh hb2 sl a0 a1 sv tz az ρ nx ct rr κ0 κ1 fl tn lt γ κ γ1 gg δ0 δ1 lf tk bt bw) (post2) G Y := by
  refine x_ofG (by decide) (Nat.le_of_ble_eq_true rfl) (fun p e s m args below meth c A ls Q M hK hZ hN hw hl hret => ?_)
  obtain ⟨hx, hb, -⟩ := id M
  have hl : lv_has ls 6 [(0, .ref xo), (1, .int (nI x)), (2, .int (nI y))] := hl
  have h6 := hI.n6
  have haB := aB_le (ρ := ρ) (y := y)
  refine lv_aload_n hx hb dL_act_0 rfl (lv_at hl 0 rfl) ?_
  refine lv_iconst (v := (nI 2)) hx hb dL_act_1 (by decide) ?_
  refine lv_iconst (v := (nI 0)) hx hb dL_act_2 (by decide) ?_
  refine lv_iconst (v := (nI 0)) hx hb dL_act_3 (by decide) ?_
  refine lv_iconst (v := (nI 0)) hx hb dL_act_4 (by decide) ?_
  refine x_cSG (As := [.ref xo, .int (nI 2), .int (nI 0), .int (nI 0), .int (nI 0)]) (oK_about l G Y xo h0 h1 hh hb2 sl a0 a1 sv tz az ρ nx ct rr κ0 κ1 fl tn lt γ κ γ1 gg δ0 δ1 lf tk bt bw _ (hI) (by decide) _ _) cw_L_192 [0, 1, 2, 3, 4, 5, 6, 7, 8, 9, 10] M hK hZ hN hw hl.1 rfl (by decide) ⟨by decide, by decide⟩ ⟨by show _ ≤ 10; omega, by show _ ≤ 60; omega⟩ rfl rfl (Nat.le_of_ble_eq_true rfl) dL_act_5 (fun r sg h_1 ha H locs hw => ?_)
  obtain ⟨rfl, rfl⟩ := h_1
  have hw : xW G A s.heap (oW Y xo h0 h1 hh hb2 sl a0 a1 sv tz az ρ nx ct rr κ0 κ1 fl tn lt γ κ γ1 gg δ0 δ1 lf tk bt bw) H locs := hw
  refine x_topN (n := ρ 4) rfl ?_
  refine lv_istore_n (lv' := [(3, .int (nI (ρ 4))), (0, .ref xo), (1, .int (nI x)), (2, .int (nI y))]) hx hb dL_act_8 rfl hl (by decide) rfl (fun ls hl => ?_)
  have L20 : ∀ (H : Heap) (locs : List Loc) (ls : Array Slot), xW G A s.heap (oW Y xo h0 h1 hh hb2 sl a0 a1 sv tz az ρ nx ct rr κ0 κ1 fl tn lt γ κ γ1 gg δ0 δ1 lf tk bt bw) H locs → lv_has ls 6 [(3, .int (nI (ρ 4))), (0, .ref xo), (1, .int (nI x)), (2, .int (nI y))] → W p l e (xRmG 40 1500 10 60) s m args below meth c H locs 1 6 Q (F0 m 20 ls [.int (nI (aB ρ y))]) := by
    intro H locs ls hw hl
    refine lv_istore (lv' := [(4, .int (nI (aB ρ y))), (3, .int (nI (ρ 4))), (0, .ref xo), (1, .int (nI x)), (2, .int (nI y))]) hx hb dL_act_20 hl (by decide) rfl (fun ls hl => ?_)
    refine lv_iload_n hx hb dL_act_22 rfl (lv_at hl 4 rfl) ?_
    refine lv_bipush (v := (nI 8)) hx hb dL_act_23 (by decide) ?_
    refine x_idiv M (n := y / 8) dL_act_25 (by omega) (by omega) (by decide) rfl ?_
    refine lv_iconst (v := (nI 3)) hx hb dL_act_26 (by decide) ?_
    refine x_irem M (n := (y / 8) % 3) dL_act_27 (by omega) (by omega) (by decide) rfl ?_
    refine lv_istore (lv' := [(5, .int (nI ((y / 8) % 3))), (4, .int (nI (aB ρ y))), (3, .int (nI (ρ 4))), (0, .ref xo), (1, .int (nI x)), (2, .int (nI y))]) hx hb dL_act_28 hl (by decide) rfl (fun ls hl => ?_)
    refine lv_iload_n hx hb dL_act_30 rfl (lv_at hl 4 rfl) ?_
    refine lv_bipush (v := (nI 24)) hx hb dL_act_31 (by decide) ?_
    refine x_irem M (n := x % 24) dL_act_33 (by omega) (by omega) (by decide) rfl ?_
    have L275 : ∀ (H : Heap) (locs : List Loc) (ls : Array Slot), xW G A s.heap (oW Y xo h0 h1 hh hb2 sl a0 a1 sv tz az ρ nx ct rr κ0 κ1 fl tn lt γ κ γ1 gg δ0 δ1 lf tk bt bw) H locs → lv_has ls 6 [(5, .int (nI ((y / 8) % 3))), (4, .int (nI (aB ρ y))), (3, .int (nI (ρ 4))), (0, .ref xo), (1, .int (nI x)), (2, .int (nI y))] → W p l e (xRmG 40 1500 10 60) s m args below meth c H locs 1 6 Q (F0 m 275 ls []) := by
      intro H locs ls hw hl
      refine lv_aload_n hx hb dL_act_275 rfl (lv_at hl 3 rfl) ?_
      refine lv_bipush (v := (nI 16)) hx hb dL_act_276 (by decide) ?_
      refine lv_iload_n hx hb dL_act_278 rfl (lv_at hl 5 rfl) ?_
      refine lv_iconst (v := (nI 2)) hx hb dL_act_279 (by decide) ?_
      refine x_irem M (n := y % 2) dL_act_280 (by omega) (by omega) (by decide) rfl ?_
      refine lv_iload_n hx hb dL_act_281 rfl (lv_at hl 5 rfl) ?_
      refine lv_iconst (v := (nI 2)) hx hb dL_act_282 (by decide) ?_
      refine x_irem M (n := y % 2) dL_act_283 (by omega) (by omega) (by decide) rfl ?_
      refine x_zne M (tgt := 299) (by omega) dL_act_284 (by decide) (fun c_2 => ?_) (fun c_2 => by exfalso; omega)
      refine lv_bipush (v := (nI 10)) hx hb dL_act_299 (by decide) ?_
      refine lv_iload_n hx hb dL_act_301 rfl (lv_at hl 5 rfl) ?_
      refine lv_iconst (v := (nI 2)) hx hb dL_act_302 (by decide) ?_
      refine x_idiv M (n := y / 2) dL_act_303 (by omega) (by omega) (by decide) rfl ?_
      refine lv_bipush (v := (nI 41)) hx hb dL_act_304 (by decide) ?_
      refine x_irem M (n := (y / 2) % 41) dL_act_306 (by omega) (by omega) (by decide) rfl ?_
      refine x_iadd M (n := 10 + ((y / 2) % 41)) dL_act_307 rfl ?_
      refine lv_iconst (v := (nI 0)) hx hb dL_act_308 (by decide) ?_
      refine x_cSG (As := [.ref xo, .int (nI 16), .int (nI (y % 2)), .int (nI (10 + ((y / 2) % 41))), .int (nI 0)]) hC cw_L_192 [0, 1, 2, 3, 4, 5, 6, 7, 8, 9, 10] M hK hZ hN hw hl.1 rfl (by decide) ⟨by show _ ≤ 40; omega, by show _ ≤ 1500; omega⟩ ⟨by show _ ≤ 10; omega, by show _ ≤ 60; omega⟩ rfl rfl (Nat.le_of_ble_eq_true rfl) dL_act_309 (fun r sg hr ha H locs hw => ?_)
      have hw : xW G A s.heap sg H locs := by rw [← xPut_all ha]; exact hw
      exact hret _ _ _ r _ _ _ _ (by show _ ≤ 10; omega) (by show _ ≤ 60; omega) dL_act_312 hw rfl ha (hpp r sg hr)
    rcases hq with hq
    · refine x_topN (n := 17) (congrArg nI hq) ?_
      refine lv_tableIn (tgt := 275) hx hb dL_act_34 (by decide) (by decide) rfl (by decide) ?_
      exact L275 _ _ _ hw hl
  refine lv_iload_n hx hb dL_act_9 rfl (lv_at hl 0 rfl) ?_
  refine x_zne M (tgt := 17) (by omega) dL_act_10 (by decide) (fun c_n => ?_) (fun c_n => ?_)
  · refine lv_iload_n hx hb dL_act_17 rfl (lv_at hl 3 rfl) ?_
    refine lv_iload_n hx hb dL_act_18 rfl (lv_at hl 0 rfl) ?_
    refine x_irem M (n := y % (ρ 4)) dL_act_19 (by omega) (by omega) (by omega) rfl ?_
    refine x_topN (n := aB ρ y) (congrArg nI (aB_1 c_n)) ?_
    refine W_widen (k := 1) (n := 6) (by omega) (by omega) ?_
    exact L20 _ _ _ hw (lv_sub hl [0, 1, 2, 3] rfl)
  refine lv_iconst (v := (nI 0)) hx hb dL_act_13 (by decide) ?_
  refine lv_goto (tgt := 20) hx hb dL_act_14 (by decide) ?_
  refine x_topN (n := aB ρ y) (congrArg nI (aB_0 c_n)) ?_
  refine W_widen (k := 1) (n := 6) (by omega) (by omega) ?_
  exact L20 _ _ _ hw (lv_sub hl [0, 1, 2, 3] rfl)
set_option maxHeartbeats 8000000 in
set_option maxRecDepth 20000 in
theorem a_undo (l : Launch) (G : va_G) (Y : Nat → Nat) (xo h0 h1 hh hb2 sl a0 a1 sv tz az : Nat) (ρ : Nat → Nat) (nx : Nat) (ct : Nat) (rr : Nat → Nat → Nat) (κ0 : Nat → Nat) (κ1 : Nat → Nat) (fl : Nat → Int32) (tn : Nat) (lt : Nat → Nat) (γ : Nat → Nat → Nat) (κ : Nat → Nat) (γ1 : Nat → Nat → Nat) (gg : Nat → Nat → Nat → Nat) (δ0 : Nat → Nat → Nat) (δ1 : Nat → Nat → Nat) (lf : Nat → Nat) (tk : Nat → Int32) (bt : Nat → Int32) (bw : Int32) (x y : Nat) (hI : Inv ρ) (hxx : x < 2 ^ 31) (hyy : y < 2 ^ 31) (hq : x % 24 = 18) (hy3 : y % 3 = 0) {fr lo : Nat} {post post2 : Int32 → List va_W → Prop} (hC : CtG l yL_call cL_call 5 .int fr lo 1 6 [.ref xo, .int (nI 17), .int (nI 0), .int (nI 0), .int (nI 0)] (oW Y xo h0 h1 hh hb2 sl a0 a1 sv tz az ρ nx ct rr κ0 κ1 fl tn lt γ κ γ1 gg δ0 δ1 lf tk bt bw) post G Y) (hfr : fr ≤ 30) (hlo : lo ≤ 1000) (hpp : ∀ r sg, post r sg → post2 r sg) : CtG l yL_act cL_act 6 .int 40 1500 10 60 [.ref xo, .int (nI x), .int (nI y)] (oW Y xo h0 h1 hh hb2 sl a0 a1 sv tz az ρ nx ct rr κ0 κ1 fl tn lt γ κ γ1 gg δ0 δ1 lf tk bt bw) (post2) G Y := by
  refine x_ofG (by decide) (Nat.le_of_ble_eq_true rfl) (fun p e s m args below meth c A ls Q M hK hZ hN hw hl hret => ?_)
  obtain ⟨hx, hb, -⟩ := id M
  have hl : lv_has ls 6 [(0, .ref xo), (1, .int (nI x)), (2, .int (nI y))] := hl
  have h6 := hI.n6
  have haB := aB_le (ρ := ρ) (y := y)
  refine lv_aload_n hx hb dL_act_0 rfl (lv_at hl 0 rfl) ?_
  refine lv_iconst (v := (nI 2)) hx hb dL_act_1 (by decide) ?_
  refine lv_iconst (v := (nI 0)) hx hb dL_act_2 (by decide) ?_
  refine lv_iconst (v := (nI 0)) hx hb dL_act_3 (by decide) ?_
  refine lv_iconst (v := (nI 0)) hx hb dL_act_4 (by decide) ?_
  refine x_cSG (As := [.ref xo, .int (nI 2), .int (nI 0), .int (nI 0), .int (nI 0)]) (oK_about l G Y xo h0 h1 hh hb2 sl a0 a1 sv tz az ρ nx ct rr κ0 κ1 fl tn lt γ κ γ1 gg δ0 δ1 lf tk bt bw _ (hI) (by decide) _ _) cw_L_192 [0, 1, 2, 3, 4, 5, 6, 7, 8, 9, 10] M hK hZ hN hw hl.1 rfl (by decide) ⟨by decide, by decide⟩ ⟨by show _ ≤ 10; omega, by show _ ≤ 60; omega⟩ rfl rfl (Nat.le_of_ble_eq_true rfl) dL_act_5 (fun r sg h_1 ha H locs hw => ?_)
  obtain ⟨rfl, rfl⟩ := h_1
  have hw : xW G A s.heap (oW Y xo h0 h1 hh hb2 sl a0 a1 sv tz az ρ nx ct rr κ0 κ1 fl tn lt γ κ γ1 gg δ0 δ1 lf tk bt bw) H locs := hw
  refine x_topN (n := ρ 4) rfl ?_
  refine lv_istore_n (lv' := [(3, .int (nI (ρ 4))), (0, .ref xo), (1, .int (nI x)), (2, .int (nI y))]) hx hb dL_act_8 rfl hl (by decide) rfl (fun ls hl => ?_)
  have L20 : ∀ (H : Heap) (locs : List Loc) (ls : Array Slot), xW G A s.heap (oW Y xo h0 h1 hh hb2 sl a0 a1 sv tz az ρ nx ct rr κ0 κ1 fl tn lt γ κ γ1 gg δ0 δ1 lf tk bt bw) H locs → lv_has ls 6 [(3, .int (nI (ρ 4))), (0, .ref xo), (1, .int (nI x)), (2, .int (nI y))] → W p l e (xRmG 40 1500 10 60) s m args below meth c H locs 1 6 Q (F0 m 20 ls [.int (nI (aB ρ y))]) := by
    intro H locs ls hw hl
    refine lv_istore (lv' := [(4, .int (nI (aB ρ y))), (3, .int (nI (ρ 4))), (0, .ref xo), (1, .int (nI x)), (2, .int (nI y))]) hx hb dL_act_20 hl (by decide) rfl (fun ls hl => ?_)
    refine lv_iload_n hx hb dL_act_22 rfl (lv_at hl 4 rfl) ?_
    refine lv_bipush (v := (nI 8)) hx hb dL_act_23 (by decide) ?_
    refine x_idiv M (n := y / 8) dL_act_25 (by omega) (by omega) (by decide) rfl ?_
    refine lv_iconst (v := (nI 3)) hx hb dL_act_26 (by decide) ?_
    refine x_irem M (n := (y / 8) % 3) dL_act_27 (by omega) (by omega) (by decide) rfl ?_
    refine lv_istore (lv' := [(5, .int (nI ((y / 8) % 3))), (4, .int (nI (aB ρ y))), (3, .int (nI (ρ 4))), (0, .ref xo), (1, .int (nI x)), (2, .int (nI y))]) hx hb dL_act_28 hl (by decide) rfl (fun ls hl => ?_)
    refine lv_iload_n hx hb dL_act_30 rfl (lv_at hl 4 rfl) ?_
    refine lv_bipush (v := (nI 24)) hx hb dL_act_31 (by decide) ?_
    refine x_irem M (n := x % 24) dL_act_33 (by omega) (by omega) (by decide) rfl ?_
    have L313 : ∀ (H : Heap) (locs : List Loc) (ls : Array Slot), xW G A s.heap (oW Y xo h0 h1 hh hb2 sl a0 a1 sv tz az ρ nx ct rr κ0 κ1 fl tn lt γ κ γ1 gg δ0 δ1 lf tk bt bw) H locs → lv_has ls 6 [(5, .int (nI ((y / 8) % 3))), (4, .int (nI (aB ρ y))), (3, .int (nI (ρ 4))), (0, .ref xo), (1, .int (nI x)), (2, .int (nI y))] → W p l e (xRmG 40 1500 10 60) s m args below meth c H locs 1 6 Q (F0 m 313 ls []) := by
      intro H locs ls hw hl
      refine lv_iload_n hx hb dL_act_313 rfl (lv_at hl 5 rfl) ?_
      refine lv_iconst (v := (nI 3)) hx hb dL_act_314 (by decide) ?_
      refine x_irem M (n := y % 3) dL_act_315 (by omega) (by omega) (by decide) rfl ?_
      refine x_zne M (tgt := 331) (by omega) dL_act_316 (by decide) (fun c_2 => by exfalso; omega) (fun c_2 => ?_)
      refine lv_aload_n hx hb dL_act_319 rfl (lv_at hl 3 rfl) ?_
      refine lv_bipush (v := (nI 17)) hx hb dL_act_320 (by decide) ?_
      refine lv_iconst (v := (nI 0)) hx hb dL_act_322 (by decide) ?_
      refine lv_iconst (v := (nI 0)) hx hb dL_act_323 (by decide) ?_
      refine lv_iconst (v := (nI 0)) hx hb dL_act_324 (by decide) ?_
      refine x_cSG (As := [.ref xo, .int (nI 17), .int (nI 0), .int (nI 0), .int (nI 0)]) hC cw_L_192 [0, 1, 2, 3, 4, 5, 6, 7, 8, 9, 10] M hK hZ hN hw hl.1 rfl (by decide) ⟨by show _ ≤ 40; omega, by show _ ≤ 1500; omega⟩ ⟨by show _ ≤ 10; omega, by show _ ≤ 60; omega⟩ rfl rfl (Nat.le_of_ble_eq_true rfl) dL_act_325 (fun r sg hr ha H locs hw => ?_)
      have hw : xW G A s.heap sg H locs := by rw [← xPut_all ha]; exact hw
      refine lv_goto (tgt := 348) hx hb dL_act_328 (by decide) ?_
      exact hret _ _ _ r _ _ _ _ (by show _ ≤ 10; omega) (by show _ ≤ 60; omega) dL_act_348 hw rfl ha (hpp r sg hr)
    rcases hq with hq
    · refine x_topN (n := 18) (congrArg nI hq) ?_
      refine lv_tableIn (tgt := 313) hx hb dL_act_34 (by decide) (by decide) rfl (by decide) ?_
      exact L313 _ _ _ hw hl
  refine lv_iload_n hx hb dL_act_9 rfl (lv_at hl 0 rfl) ?_
  refine x_zne M (tgt := 17) (by omega) dL_act_10 (by decide) (fun c_n => ?_) (fun c_n => ?_)
  · refine lv_iload_n hx hb dL_act_17 rfl (lv_at hl 3 rfl) ?_
    refine lv_iload_n hx hb dL_act_18 rfl (lv_at hl 0 rfl) ?_
    refine x_irem M (n := y % (ρ 4)) dL_act_19 (by omega) (by omega) (by omega) rfl ?_
    refine x_topN (n := aB ρ y) (congrArg nI (aB_1 c_n)) ?_
    refine W_widen (k := 1) (n := 6) (by omega) (by omega) ?_
    exact L20 _ _ _ hw (lv_sub hl [0, 1, 2, 3] rfl)
  refine lv_iconst (v := (nI 0)) hx hb dL_act_13 (by decide) ?_
  refine lv_goto (tgt := 20) hx hb dL_act_14 (by decide) ?_
  refine x_topN (n := aB ρ y) (congrArg nI (aB_0 c_n)) ?_
  refine W_widen (k := 1) (n := 6) (by omega) (by omega) ?_
  exact L20 _ _ _ hw (lv_sub hl [0, 1, 2, 3] rfl)
set_option maxHeartbeats 8000000 in
set_option maxRecDepth 20000 in
theorem a_drop (l : Launch) (G : va_G) (Y : Nat → Nat) (xo h0 h1 hh hb2 sl a0 a1 sv tz az : Nat) (ρ : Nat → Nat) (nx : Nat) (ct : Nat) (rr : Nat → Nat → Nat) (κ0 : Nat → Nat) (κ1 : Nat → Nat) (fl : Nat → Int32) (tn : Nat) (lt : Nat → Nat) (γ : Nat → Nat → Nat) (κ : Nat → Nat) (γ1 : Nat → Nat → Nat) (gg : Nat → Nat → Nat → Nat) (δ0 : Nat → Nat → Nat) (δ1 : Nat → Nat → Nat) (lf : Nat → Nat) (tk : Nat → Int32) (bt : Nat → Int32) (bw : Int32) (x y : Nat) (hI : Inv ρ) (hxx : x < 2 ^ 31) (hyy : y < 2 ^ 31) (hq : x % 24 = 18) (hy3 : 0 < y % 3) {fr lo : Nat} {post post2 : Int32 → List va_W → Prop} (hC : CtG l yL_call cL_call 5 .int fr lo 1 6 [.ref xo, .int (nI 15), .int (nI (aB ρ y)), .int (nI (1 + ((y / 32) % 3))), .int (nI 0)] (oW Y xo h0 h1 hh hb2 sl a0 a1 sv tz az ρ nx ct rr κ0 κ1 fl tn lt γ κ γ1 gg δ0 δ1 lf tk bt bw) post G Y) (hfr : fr ≤ 30) (hlo : lo ≤ 1000) (hpp : ∀ r sg, post r sg → post2 r sg) : CtG l yL_act cL_act 6 .int 40 1500 10 60 [.ref xo, .int (nI x), .int (nI y)] (oW Y xo h0 h1 hh hb2 sl a0 a1 sv tz az ρ nx ct rr κ0 κ1 fl tn lt γ κ γ1 gg δ0 δ1 lf tk bt bw) (post2) G Y := by
  refine x_ofG (by decide) (Nat.le_of_ble_eq_true rfl) (fun p e s m args below meth c A ls Q M hK hZ hN hw hl hret => ?_)
  obtain ⟨hx, hb, -⟩ := id M
  have hl : lv_has ls 6 [(0, .ref xo), (1, .int (nI x)), (2, .int (nI y))] := hl
  have h6 := hI.n6
  have haB := aB_le (ρ := ρ) (y := y)
  refine lv_aload_n hx hb dL_act_0 rfl (lv_at hl 0 rfl) ?_
  refine lv_iconst (v := (nI 2)) hx hb dL_act_1 (by decide) ?_
  refine lv_iconst (v := (nI 0)) hx hb dL_act_2 (by decide) ?_
  refine lv_iconst (v := (nI 0)) hx hb dL_act_3 (by decide) ?_
  refine lv_iconst (v := (nI 0)) hx hb dL_act_4 (by decide) ?_
  refine x_cSG (As := [.ref xo, .int (nI 2), .int (nI 0), .int (nI 0), .int (nI 0)]) (oK_about l G Y xo h0 h1 hh hb2 sl a0 a1 sv tz az ρ nx ct rr κ0 κ1 fl tn lt γ κ γ1 gg δ0 δ1 lf tk bt bw _ (hI) (by decide) _ _) cw_L_192 [0, 1, 2, 3, 4, 5, 6, 7, 8, 9, 10] M hK hZ hN hw hl.1 rfl (by decide) ⟨by decide, by decide⟩ ⟨by show _ ≤ 10; omega, by show _ ≤ 60; omega⟩ rfl rfl (Nat.le_of_ble_eq_true rfl) dL_act_5 (fun r sg h_1 ha H locs hw => ?_)
  obtain ⟨rfl, rfl⟩ := h_1
  have hw : xW G A s.heap (oW Y xo h0 h1 hh hb2 sl a0 a1 sv tz az ρ nx ct rr κ0 κ1 fl tn lt γ κ γ1 gg δ0 δ1 lf tk bt bw) H locs := hw
  refine x_topN (n := ρ 4) rfl ?_
  refine lv_istore_n (lv' := [(3, .int (nI (ρ 4))), (0, .ref xo), (1, .int (nI x)), (2, .int (nI y))]) hx hb dL_act_8 rfl hl (by decide) rfl (fun ls hl => ?_)
  have L20 : ∀ (H : Heap) (locs : List Loc) (ls : Array Slot), xW G A s.heap (oW Y xo h0 h1 hh hb2 sl a0 a1 sv tz az ρ nx ct rr κ0 κ1 fl tn lt γ κ γ1 gg δ0 δ1 lf tk bt bw) H locs → lv_has ls 6 [(3, .int (nI (ρ 4))), (0, .ref xo), (1, .int (nI x)), (2, .int (nI y))] → W p l e (xRmG 40 1500 10 60) s m args below meth c H locs 1 6 Q (F0 m 20 ls [.int (nI (aB ρ y))]) := by
    intro H locs ls hw hl
    refine lv_istore (lv' := [(4, .int (nI (aB ρ y))), (3, .int (nI (ρ 4))), (0, .ref xo), (1, .int (nI x)), (2, .int (nI y))]) hx hb dL_act_20 hl (by decide) rfl (fun ls hl => ?_)
    refine lv_iload_n hx hb dL_act_22 rfl (lv_at hl 4 rfl) ?_
    refine lv_bipush (v := (nI 8)) hx hb dL_act_23 (by decide) ?_
    refine x_idiv M (n := y / 8) dL_act_25 (by omega) (by omega) (by decide) rfl ?_
    refine lv_iconst (v := (nI 3)) hx hb dL_act_26 (by decide) ?_
    refine x_irem M (n := (y / 8) % 3) dL_act_27 (by omega) (by omega) (by decide) rfl ?_
    refine lv_istore (lv' := [(5, .int (nI ((y / 8) % 3))), (4, .int (nI (aB ρ y))), (3, .int (nI (ρ 4))), (0, .ref xo), (1, .int (nI x)), (2, .int (nI y))]) hx hb dL_act_28 hl (by decide) rfl (fun ls hl => ?_)
    refine lv_iload_n hx hb dL_act_30 rfl (lv_at hl 4 rfl) ?_
    refine lv_bipush (v := (nI 24)) hx hb dL_act_31 (by decide) ?_
    refine x_irem M (n := x % 24) dL_act_33 (by omega) (by omega) (by decide) rfl ?_
    have L313 : ∀ (H : Heap) (locs : List Loc) (ls : Array Slot), xW G A s.heap (oW Y xo h0 h1 hh hb2 sl a0 a1 sv tz az ρ nx ct rr κ0 κ1 fl tn lt γ κ γ1 gg δ0 δ1 lf tk bt bw) H locs → lv_has ls 6 [(5, .int (nI ((y / 8) % 3))), (4, .int (nI (aB ρ y))), (3, .int (nI (ρ 4))), (0, .ref xo), (1, .int (nI x)), (2, .int (nI y))] → W p l e (xRmG 40 1500 10 60) s m args below meth c H locs 1 6 Q (F0 m 313 ls []) := by
      intro H locs ls hw hl
      refine lv_iload_n hx hb dL_act_313 rfl (lv_at hl 5 rfl) ?_
      refine lv_iconst (v := (nI 3)) hx hb dL_act_314 (by decide) ?_
      refine x_irem M (n := y % 3) dL_act_315 (by omega) (by omega) (by decide) rfl ?_
      refine x_zne M (tgt := 331) (by omega) dL_act_316 (by decide) (fun c_2 => ?_) (fun c_2 => by exfalso; omega)
      refine lv_aload_n hx hb dL_act_331 rfl (lv_at hl 3 rfl) ?_
      refine lv_bipush (v := (nI 15)) hx hb dL_act_332 (by decide) ?_
      refine lv_iload hx hb dL_act_334 (lv_at hl 1 rfl) ?_
      refine lv_iconst (v := (nI 1)) hx hb dL_act_336 (by decide) ?_
      refine lv_iload_n hx hb dL_act_337 rfl (lv_at hl 5 rfl) ?_
      refine lv_bipush (v := (nI 32)) hx hb dL_act_338 (by decide) ?_
      refine x_idiv M (n := y / 32) dL_act_340 (by omega) (by omega) (by decide) rfl ?_
      refine lv_iconst (v := (nI 3)) hx hb dL_act_341 (by decide) ?_
      refine x_irem M (n := (y / 32) % 3) dL_act_342 (by omega) (by omega) (by decide) rfl ?_
      refine x_iadd M (n := 1 + ((y / 32) % 3)) dL_act_343 rfl ?_
      refine lv_iconst (v := (nI 0)) hx hb dL_act_344 (by decide) ?_
      refine x_cSG (As := [.ref xo, .int (nI 15), .int (nI (aB ρ y)), .int (nI (1 + ((y / 32) % 3))), .int (nI 0)]) hC cw_L_192 [0, 1, 2, 3, 4, 5, 6, 7, 8, 9, 10] M hK hZ hN hw hl.1 rfl (by decide) ⟨by show _ ≤ 40; omega, by show _ ≤ 1500; omega⟩ ⟨by show _ ≤ 10; omega, by show _ ≤ 60; omega⟩ rfl rfl (Nat.le_of_ble_eq_true rfl) dL_act_345 (fun r sg hr ha H locs hw => ?_)
      have hw : xW G A s.heap sg H locs := by rw [← xPut_all ha]; exact hw
      exact hret _ _ _ r _ _ _ _ (by show _ ≤ 10; omega) (by show _ ≤ 60; omega) dL_act_348 hw rfl ha (hpp r sg hr)
    rcases hq with hq
    · refine x_topN (n := 18) (congrArg nI hq) ?_
      refine lv_tableIn (tgt := 313) hx hb dL_act_34 (by decide) (by decide) rfl (by decide) ?_
      exact L313 _ _ _ hw hl
  refine lv_iload_n hx hb dL_act_9 rfl (lv_at hl 0 rfl) ?_
  refine x_zne M (tgt := 17) (by omega) dL_act_10 (by decide) (fun c_n => ?_) (fun c_n => ?_)
  · refine lv_iload_n hx hb dL_act_17 rfl (lv_at hl 3 rfl) ?_
    refine lv_iload_n hx hb dL_act_18 rfl (lv_at hl 0 rfl) ?_
    refine x_irem M (n := y % (ρ 4)) dL_act_19 (by omega) (by omega) (by omega) rfl ?_
    refine x_topN (n := aB ρ y) (congrArg nI (aB_1 c_n)) ?_
    refine W_widen (k := 1) (n := 6) (by omega) (by omega) ?_
    exact L20 _ _ _ hw (lv_sub hl [0, 1, 2, 3] rfl)
  refine lv_iconst (v := (nI 0)) hx hb dL_act_13 (by decide) ?_
  refine lv_goto (tgt := 20) hx hb dL_act_14 (by decide) ?_
  refine x_topN (n := aB ρ y) (congrArg nI (aB_0 c_n)) ?_
  refine W_widen (k := 1) (n := 6) (by omega) (by omega) ?_
  exact L20 _ _ _ hw (lv_sub hl [0, 1, 2, 3] rfl)
set_option maxHeartbeats 8000000 in
set_option maxRecDepth 20000 in
theorem a_save (l : Launch) (G : va_G) (Y : Nat → Nat) (xo h0 h1 hh hb2 sl a0 a1 sv tz az : Nat) (ρ : Nat → Nat) (nx : Nat) (ct : Nat) (rr : Nat → Nat → Nat) (κ0 : Nat → Nat) (κ1 : Nat → Nat) (fl : Nat → Int32) (tn : Nat) (lt : Nat → Nat) (γ : Nat → Nat → Nat) (κ : Nat → Nat) (γ1 : Nat → Nat → Nat) (gg : Nat → Nat → Nat → Nat) (δ0 : Nat → Nat → Nat) (δ1 : Nat → Nat → Nat) (lf : Nat → Nat) (tk : Nat → Int32) (bt : Nat → Int32) (bw : Int32) (x y : Nat) (hI : Inv ρ) (hxx : x < 2 ^ 31) (hyy : y < 2 ^ 31) (hq : x % 24 = 19)  {fr lo : Nat} {post post2 : Int32 → List va_W → Prop} (hC : CtG l yL_call cL_call 5 .int fr lo 1 6 [.ref xo, .int (nI 23), .int (nI (y % 2)), .int (nI 0), .int (nI 0)] (oW Y xo h0 h1 hh hb2 sl a0 a1 sv tz az ρ nx ct rr κ0 κ1 fl tn lt γ κ γ1 gg δ0 δ1 lf tk bt bw) post G Y) (hfr : fr ≤ 30) (hlo : lo ≤ 1000) (hpp : ∀ r sg, post r sg → post2 r sg) : CtG l yL_act cL_act 6 .int 40 1500 10 60 [.ref xo, .int (nI x), .int (nI y)] (oW Y xo h0 h1 hh hb2 sl a0 a1 sv tz az ρ nx ct rr κ0 κ1 fl tn lt γ κ γ1 gg δ0 δ1 lf tk bt bw) (post2) G Y := by
  refine x_ofG (by decide) (Nat.le_of_ble_eq_true rfl) (fun p e s m args below meth c A ls Q M hK hZ hN hw hl hret => ?_)
  obtain ⟨hx, hb, -⟩ := id M
  have hl : lv_has ls 6 [(0, .ref xo), (1, .int (nI x)), (2, .int (nI y))] := hl
  have h6 := hI.n6
  have haB := aB_le (ρ := ρ) (y := y)
  refine lv_aload_n hx hb dL_act_0 rfl (lv_at hl 0 rfl) ?_
  refine lv_iconst (v := (nI 2)) hx hb dL_act_1 (by decide) ?_
  refine lv_iconst (v := (nI 0)) hx hb dL_act_2 (by decide) ?_
  refine lv_iconst (v := (nI 0)) hx hb dL_act_3 (by decide) ?_
  refine lv_iconst (v := (nI 0)) hx hb dL_act_4 (by decide) ?_
  refine x_cSG (As := [.ref xo, .int (nI 2), .int (nI 0), .int (nI 0), .int (nI 0)]) (oK_about l G Y xo h0 h1 hh hb2 sl a0 a1 sv tz az ρ nx ct rr κ0 κ1 fl tn lt γ κ γ1 gg δ0 δ1 lf tk bt bw _ (hI) (by decide) _ _) cw_L_192 [0, 1, 2, 3, 4, 5, 6, 7, 8, 9, 10] M hK hZ hN hw hl.1 rfl (by decide) ⟨by decide, by decide⟩ ⟨by show _ ≤ 10; omega, by show _ ≤ 60; omega⟩ rfl rfl (Nat.le_of_ble_eq_true rfl) dL_act_5 (fun r sg h_1 ha H locs hw => ?_)
  obtain ⟨rfl, rfl⟩ := h_1
  have hw : xW G A s.heap (oW Y xo h0 h1 hh hb2 sl a0 a1 sv tz az ρ nx ct rr κ0 κ1 fl tn lt γ κ γ1 gg δ0 δ1 lf tk bt bw) H locs := hw
  refine x_topN (n := ρ 4) rfl ?_
  refine lv_istore_n (lv' := [(3, .int (nI (ρ 4))), (0, .ref xo), (1, .int (nI x)), (2, .int (nI y))]) hx hb dL_act_8 rfl hl (by decide) rfl (fun ls hl => ?_)
  have L20 : ∀ (H : Heap) (locs : List Loc) (ls : Array Slot), xW G A s.heap (oW Y xo h0 h1 hh hb2 sl a0 a1 sv tz az ρ nx ct rr κ0 κ1 fl tn lt γ κ γ1 gg δ0 δ1 lf tk bt bw) H locs → lv_has ls 6 [(3, .int (nI (ρ 4))), (0, .ref xo), (1, .int (nI x)), (2, .int (nI y))] → W p l e (xRmG 40 1500 10 60) s m args below meth c H locs 1 6 Q (F0 m 20 ls [.int (nI (aB ρ y))]) := by
    intro H locs ls hw hl
    refine lv_istore (lv' := [(4, .int (nI (aB ρ y))), (3, .int (nI (ρ 4))), (0, .ref xo), (1, .int (nI x)), (2, .int (nI y))]) hx hb dL_act_20 hl (by decide) rfl (fun ls hl => ?_)
    refine lv_iload_n hx hb dL_act_22 rfl (lv_at hl 4 rfl) ?_
    refine lv_bipush (v := (nI 8)) hx hb dL_act_23 (by decide) ?_
    refine x_idiv M (n := y / 8) dL_act_25 (by omega) (by omega) (by decide) rfl ?_
    refine lv_iconst (v := (nI 3)) hx hb dL_act_26 (by decide) ?_
    refine x_irem M (n := (y / 8) % 3) dL_act_27 (by omega) (by omega) (by decide) rfl ?_
    refine lv_istore (lv' := [(5, .int (nI ((y / 8) % 3))), (4, .int (nI (aB ρ y))), (3, .int (nI (ρ 4))), (0, .ref xo), (1, .int (nI x)), (2, .int (nI y))]) hx hb dL_act_28 hl (by decide) rfl (fun ls hl => ?_)
    refine lv_iload_n hx hb dL_act_30 rfl (lv_at hl 4 rfl) ?_
    refine lv_bipush (v := (nI 24)) hx hb dL_act_31 (by decide) ?_
    refine x_irem M (n := x % 24) dL_act_33 (by omega) (by omega) (by decide) rfl ?_
    have L349 : ∀ (H : Heap) (locs : List Loc) (ls : Array Slot), xW G A s.heap (oW Y xo h0 h1 hh hb2 sl a0 a1 sv tz az ρ nx ct rr κ0 κ1 fl tn lt γ κ γ1 gg δ0 δ1 lf tk bt bw) H locs → lv_has ls 6 [(5, .int (nI ((y / 8) % 3))), (4, .int (nI (aB ρ y))), (3, .int (nI (ρ 4))), (0, .ref xo), (1, .int (nI x)), (2, .int (nI y))] → W p l e (xRmG 40 1500 10 60) s m args below meth c H locs 1 6 Q (F0 m 349 ls []) := by
      intro H locs ls hw hl
      refine lv_aload_n hx hb dL_act_349 rfl (lv_at hl 3 rfl) ?_
      refine lv_bipush (v := (nI 23)) hx hb dL_act_350 (by decide) ?_
      refine lv_iload_n hx hb dL_act_352 rfl (lv_at hl 5 rfl) ?_
      refine lv_iconst (v := (nI 2)) hx hb dL_act_353 (by decide) ?_
      refine x_irem M (n := y % 2) dL_act_354 (by omega) (by omega) (by decide) rfl ?_
      refine lv_iconst (v := (nI 0)) hx hb dL_act_355 (by decide) ?_
      refine lv_iconst (v := (nI 0)) hx hb dL_act_356 (by decide) ?_
      refine x_cSG (As := [.ref xo, .int (nI 23), .int (nI (y % 2)), .int (nI 0), .int (nI 0)]) hC cw_L_192 [0, 1, 2, 3, 4, 5, 6, 7, 8, 9, 10] M hK hZ hN hw hl.1 rfl (by decide) ⟨by show _ ≤ 40; omega, by show _ ≤ 1500; omega⟩ ⟨by show _ ≤ 10; omega, by show _ ≤ 60; omega⟩ rfl rfl (Nat.le_of_ble_eq_true rfl) dL_act_357 (fun r sg hr ha H locs hw => ?_)
      have hw : xW G A s.heap sg H locs := by rw [← xPut_all ha]; exact hw
      exact hret _ _ _ r _ _ _ _ (by show _ ≤ 10; omega) (by show _ ≤ 60; omega) dL_act_360 hw rfl ha (hpp r sg hr)
    rcases hq with hq
    · refine x_topN (n := 19) (congrArg nI hq) ?_
      refine lv_tableIn (tgt := 349) hx hb dL_act_34 (by decide) (by decide) rfl (by decide) ?_
      exact L349 _ _ _ hw hl
  refine lv_iload_n hx hb dL_act_9 rfl (lv_at hl 0 rfl) ?_
  refine x_zne M (tgt := 17) (by omega) dL_act_10 (by decide) (fun c_n => ?_) (fun c_n => ?_)
  · refine lv_iload_n hx hb dL_act_17 rfl (lv_at hl 3 rfl) ?_
    refine lv_iload_n hx hb dL_act_18 rfl (lv_at hl 0 rfl) ?_
    refine x_irem M (n := y % (ρ 4)) dL_act_19 (by omega) (by omega) (by omega) rfl ?_
    refine x_topN (n := aB ρ y) (congrArg nI (aB_1 c_n)) ?_
    refine W_widen (k := 1) (n := 6) (by omega) (by omega) ?_
    exact L20 _ _ _ hw (lv_sub hl [0, 1, 2, 3] rfl)
  refine lv_iconst (v := (nI 0)) hx hb dL_act_13 (by decide) ?_
  refine lv_goto (tgt := 20) hx hb dL_act_14 (by decide) ?_
  refine x_topN (n := aB ρ y) (congrArg nI (aB_0 c_n)) ?_
  refine W_widen (k := 1) (n := 6) (by omega) (by omega) ?_
  exact L20 _ _ _ hw (lv_sub hl [0, 1, 2, 3] rfl)
set_option maxHeartbeats 8000000 in
set_option maxRecDepth 20000 in
theorem a_restore (l : Launch) (G : va_G) (Y : Nat → Nat) (xo h0 h1 hh hb2 sl a0 a1 sv tz az : Nat) (ρ : Nat → Nat) (nx : Nat) (ct : Nat) (rr : Nat → Nat → Nat) (κ0 : Nat → Nat) (κ1 : Nat → Nat) (fl : Nat → Int32) (tn : Nat) (lt : Nat → Nat) (γ : Nat → Nat → Nat) (κ : Nat → Nat) (γ1 : Nat → Nat → Nat) (gg : Nat → Nat → Nat → Nat) (δ0 : Nat → Nat → Nat) (δ1 : Nat → Nat → Nat) (lf : Nat → Nat) (tk : Nat → Int32) (bt : Nat → Int32) (bw : Int32) (x y : Nat) (hI : Inv ρ) (hxx : x < 2 ^ 31) (hyy : y < 2 ^ 31) (hq : x % 24 = 20)  {fr lo : Nat} {post post2 : Int32 → List va_W → Prop} (hC : CtG l yL_call cL_call 5 .int fr lo 1 6 [.ref xo, .int (nI 24), .int (nI (y % 2)), .int (nI 0), .int (nI 0)] (oW Y xo h0 h1 hh hb2 sl a0 a1 sv tz az ρ nx ct rr κ0 κ1 fl tn lt γ κ γ1 gg δ0 δ1 lf tk bt bw) post G Y) (hfr : fr ≤ 30) (hlo : lo ≤ 1000) (hpp : ∀ r sg, post r sg → post2 r sg) : CtG l yL_act cL_act 6 .int 40 1500 10 60 [.ref xo, .int (nI x), .int (nI y)] (oW Y xo h0 h1 hh hb2 sl a0 a1 sv tz az ρ nx ct rr κ0 κ1 fl tn lt γ κ γ1 gg δ0 δ1 lf tk bt bw) (post2) G Y := by
  refine x_ofG (by decide) (Nat.le_of_ble_eq_true rfl) (fun p e s m args below meth c A ls Q M hK hZ hN hw hl hret => ?_)
  obtain ⟨hx, hb, -⟩ := id M
  have hl : lv_has ls 6 [(0, .ref xo), (1, .int (nI x)), (2, .int (nI y))] := hl
  have h6 := hI.n6
  have haB := aB_le (ρ := ρ) (y := y)
  refine lv_aload_n hx hb dL_act_0 rfl (lv_at hl 0 rfl) ?_
  refine lv_iconst (v := (nI 2)) hx hb dL_act_1 (by decide) ?_
  refine lv_iconst (v := (nI 0)) hx hb dL_act_2 (by decide) ?_
  refine lv_iconst (v := (nI 0)) hx hb dL_act_3 (by decide) ?_
  refine lv_iconst (v := (nI 0)) hx hb dL_act_4 (by decide) ?_
  refine x_cSG (As := [.ref xo, .int (nI 2), .int (nI 0), .int (nI 0), .int (nI 0)]) (oK_about l G Y xo h0 h1 hh hb2 sl a0 a1 sv tz az ρ nx ct rr κ0 κ1 fl tn lt γ κ γ1 gg δ0 δ1 lf tk bt bw _ (hI) (by decide) _ _) cw_L_192 [0, 1, 2, 3, 4, 5, 6, 7, 8, 9, 10] M hK hZ hN hw hl.1 rfl (by decide) ⟨by decide, by decide⟩ ⟨by show _ ≤ 10; omega, by show _ ≤ 60; omega⟩ rfl rfl (Nat.le_of_ble_eq_true rfl) dL_act_5 (fun r sg h_1 ha H locs hw => ?_)
  obtain ⟨rfl, rfl⟩ := h_1
  have hw : xW G A s.heap (oW Y xo h0 h1 hh hb2 sl a0 a1 sv tz az ρ nx ct rr κ0 κ1 fl tn lt γ κ γ1 gg δ0 δ1 lf tk bt bw) H locs := hw
  refine x_topN (n := ρ 4) rfl ?_
  refine lv_istore_n (lv' := [(3, .int (nI (ρ 4))), (0, .ref xo), (1, .int (nI x)), (2, .int (nI y))]) hx hb dL_act_8 rfl hl (by decide) rfl (fun ls hl => ?_)
  have L20 : ∀ (H : Heap) (locs : List Loc) (ls : Array Slot), xW G A s.heap (oW Y xo h0 h1 hh hb2 sl a0 a1 sv tz az ρ nx ct rr κ0 κ1 fl tn lt γ κ γ1 gg δ0 δ1 lf tk bt bw) H locs → lv_has ls 6 [(3, .int (nI (ρ 4))), (0, .ref xo), (1, .int (nI x)), (2, .int (nI y))] → W p l e (xRmG 40 1500 10 60) s m args below meth c H locs 1 6 Q (F0 m 20 ls [.int (nI (aB ρ y))]) := by
    intro H locs ls hw hl
    refine lv_istore (lv' := [(4, .int (nI (aB ρ y))), (3, .int (nI (ρ 4))), (0, .ref xo), (1, .int (nI x)), (2, .int (nI y))]) hx hb dL_act_20 hl (by decide) rfl (fun ls hl => ?_)
    refine lv_iload_n hx hb dL_act_22 rfl (lv_at hl 4 rfl) ?_
    refine lv_bipush (v := (nI 8)) hx hb dL_act_23 (by decide) ?_
    refine x_idiv M (n := y / 8) dL_act_25 (by omega) (by omega) (by decide) rfl ?_
    refine lv_iconst (v := (nI 3)) hx hb dL_act_26 (by decide) ?_
    refine x_irem M (n := (y / 8) % 3) dL_act_27 (by omega) (by omega) (by decide) rfl ?_
    refine lv_istore (lv' := [(5, .int (nI ((y / 8) % 3))), (4, .int (nI (aB ρ y))), (3, .int (nI (ρ 4))), (0, .ref xo), (1, .int (nI x)), (2, .int (nI y))]) hx hb dL_act_28 hl (by decide) rfl (fun ls hl => ?_)
    refine lv_iload_n hx hb dL_act_30 rfl (lv_at hl 4 rfl) ?_
    refine lv_bipush (v := (nI 24)) hx hb dL_act_31 (by decide) ?_
    refine x_irem M (n := x % 24) dL_act_33 (by omega) (by omega) (by decide) rfl ?_
    have L361 : ∀ (H : Heap) (locs : List Loc) (ls : Array Slot), xW G A s.heap (oW Y xo h0 h1 hh hb2 sl a0 a1 sv tz az ρ nx ct rr κ0 κ1 fl tn lt γ κ γ1 gg δ0 δ1 lf tk bt bw) H locs → lv_has ls 6 [(5, .int (nI ((y / 8) % 3))), (4, .int (nI (aB ρ y))), (3, .int (nI (ρ 4))), (0, .ref xo), (1, .int (nI x)), (2, .int (nI y))] → W p l e (xRmG 40 1500 10 60) s m args below meth c H locs 1 6 Q (F0 m 361 ls []) := by
      intro H locs ls hw hl
      refine lv_aload_n hx hb dL_act_361 rfl (lv_at hl 3 rfl) ?_
      refine lv_bipush (v := (nI 24)) hx hb dL_act_362 (by decide) ?_
      refine lv_iload_n hx hb dL_act_364 rfl (lv_at hl 5 rfl) ?_
      refine lv_iconst (v := (nI 2)) hx hb dL_act_365 (by decide) ?_
      refine x_irem M (n := y % 2) dL_act_366 (by omega) (by omega) (by decide) rfl ?_
      refine lv_iconst (v := (nI 0)) hx hb dL_act_367 (by decide) ?_
      refine lv_iconst (v := (nI 0)) hx hb dL_act_368 (by decide) ?_
      refine x_cSG (As := [.ref xo, .int (nI 24), .int (nI (y % 2)), .int (nI 0), .int (nI 0)]) hC cw_L_192 [0, 1, 2, 3, 4, 5, 6, 7, 8, 9, 10] M hK hZ hN hw hl.1 rfl (by decide) ⟨by show _ ≤ 40; omega, by show _ ≤ 1500; omega⟩ ⟨by show _ ≤ 10; omega, by show _ ≤ 60; omega⟩ rfl rfl (Nat.le_of_ble_eq_true rfl) dL_act_369 (fun r sg hr ha H locs hw => ?_)
      have hw : xW G A s.heap sg H locs := by rw [← xPut_all ha]; exact hw
      exact hret _ _ _ r _ _ _ _ (by show _ ≤ 10; omega) (by show _ ≤ 60; omega) dL_act_372 hw rfl ha (hpp r sg hr)
    rcases hq with hq
    · refine x_topN (n := 20) (congrArg nI hq) ?_
      refine lv_tableIn (tgt := 361) hx hb dL_act_34 (by decide) (by decide) rfl (by decide) ?_
      exact L361 _ _ _ hw hl
  refine lv_iload_n hx hb dL_act_9 rfl (lv_at hl 0 rfl) ?_
  refine x_zne M (tgt := 17) (by omega) dL_act_10 (by decide) (fun c_n => ?_) (fun c_n => ?_)
  · refine lv_iload_n hx hb dL_act_17 rfl (lv_at hl 3 rfl) ?_
    refine lv_iload_n hx hb dL_act_18 rfl (lv_at hl 0 rfl) ?_
    refine x_irem M (n := y % (ρ 4)) dL_act_19 (by omega) (by omega) (by omega) rfl ?_
    refine x_topN (n := aB ρ y) (congrArg nI (aB_1 c_n)) ?_
    refine W_widen (k := 1) (n := 6) (by omega) (by omega) ?_
    exact L20 _ _ _ hw (lv_sub hl [0, 1, 2, 3] rfl)
  refine lv_iconst (v := (nI 0)) hx hb dL_act_13 (by decide) ?_
  refine lv_goto (tgt := 20) hx hb dL_act_14 (by decide) ?_
  refine x_topN (n := aB ρ y) (congrArg nI (aB_0 c_n)) ?_
  refine W_widen (k := 1) (n := 6) (by omega) (by omega) ?_
  exact L20 _ _ _ hw (lv_sub hl [0, 1, 2, 3] rfl)
set_option maxHeartbeats 8000000 in
set_option maxRecDepth 20000 in
theorem a_add (l : Launch) (G : va_G) (Y : Nat → Nat) (xo h0 h1 hh hb2 sl a0 a1 sv tz az : Nat) (ρ : Nat → Nat) (nx : Nat) (ct : Nat) (rr : Nat → Nat → Nat) (κ0 : Nat → Nat) (κ1 : Nat → Nat) (fl : Nat → Int32) (tn : Nat) (lt : Nat → Nat) (γ : Nat → Nat → Nat) (κ : Nat → Nat) (γ1 : Nat → Nat → Nat) (gg : Nat → Nat → Nat → Nat) (δ0 : Nat → Nat → Nat) (δ1 : Nat → Nat → Nat) (lf : Nat → Nat) (tk : Nat → Int32) (bt : Nat → Int32) (bw : Int32) (x y : Nat) (hI : Inv ρ) (hxx : x < 2 ^ 31) (hyy : y < 2 ^ 31) (hq : x % 24 = 22 ∨ x % 24 = 23)  {fr lo : Nat} {post post2 : Int32 → List va_W → Prop} (hC : CtL l yL_tryAdd cL_tryAdd 7 [(0, 11, 12, 13), (0, 11, 17, 16), (0, 11, 22, 19)] fr lo [.ref xo, .int (nI (aB ρ y)), .int (nI ((y / 32) % 3)), .int (nI ((y / 128) % 3)), .int (nI ((y / 512) % 3)), .int (nI (1 + ((y / 2048) % 400)))] (oW Y xo h0 h1 hh hb2 sl a0 a1 sv tz az ρ nx ct rr κ0 κ1 fl tn lt γ κ γ1 gg δ0 δ1 lf tk bt bw) post G Y) (hfr : fr ≤ 30) (hlo : lo ≤ 1000) (hpp : ∀ r sg, post r sg → post2 r sg) : CtG l yL_act cL_act 6 .int 40 1500 10 60 [.ref xo, .int (nI x), .int (nI y)] (oW Y xo h0 h1 hh hb2 sl a0 a1 sv tz az ρ nx ct rr κ0 κ1 fl tn lt γ κ γ1 gg δ0 δ1 lf tk bt bw) (post2) G Y := by
  refine x_ofG (by decide) (Nat.le_of_ble_eq_true rfl) (fun p e s m args below meth c A ls Q M hK hZ hN hw hl hret => ?_)
  obtain ⟨hx, hb, -⟩ := id M
  have hl : lv_has ls 6 [(0, .ref xo), (1, .int (nI x)), (2, .int (nI y))] := hl
  have h6 := hI.n6
  have haB := aB_le (ρ := ρ) (y := y)
  refine lv_aload_n hx hb dL_act_0 rfl (lv_at hl 0 rfl) ?_
  refine lv_iconst (v := (nI 2)) hx hb dL_act_1 (by decide) ?_
  refine lv_iconst (v := (nI 0)) hx hb dL_act_2 (by decide) ?_
  refine lv_iconst (v := (nI 0)) hx hb dL_act_3 (by decide) ?_
  refine lv_iconst (v := (nI 0)) hx hb dL_act_4 (by decide) ?_
  refine x_cSG (As := [.ref xo, .int (nI 2), .int (nI 0), .int (nI 0), .int (nI 0)]) (oK_about l G Y xo h0 h1 hh hb2 sl a0 a1 sv tz az ρ nx ct rr κ0 κ1 fl tn lt γ κ γ1 gg δ0 δ1 lf tk bt bw _ (hI) (by decide) _ _) cw_L_192 [0, 1, 2, 3, 4, 5, 6, 7, 8, 9, 10] M hK hZ hN hw hl.1 rfl (by decide) ⟨by decide, by decide⟩ ⟨by show _ ≤ 10; omega, by show _ ≤ 60; omega⟩ rfl rfl (Nat.le_of_ble_eq_true rfl) dL_act_5 (fun r sg h_1 ha H locs hw => ?_)
  obtain ⟨rfl, rfl⟩ := h_1
  have hw : xW G A s.heap (oW Y xo h0 h1 hh hb2 sl a0 a1 sv tz az ρ nx ct rr κ0 κ1 fl tn lt γ κ γ1 gg δ0 δ1 lf tk bt bw) H locs := hw
  refine x_topN (n := ρ 4) rfl ?_
  refine lv_istore_n (lv' := [(3, .int (nI (ρ 4))), (0, .ref xo), (1, .int (nI x)), (2, .int (nI y))]) hx hb dL_act_8 rfl hl (by decide) rfl (fun ls hl => ?_)
  have L20 : ∀ (H : Heap) (locs : List Loc) (ls : Array Slot), xW G A s.heap (oW Y xo h0 h1 hh hb2 sl a0 a1 sv tz az ρ nx ct rr κ0 κ1 fl tn lt γ κ γ1 gg δ0 δ1 lf tk bt bw) H locs → lv_has ls 6 [(3, .int (nI (ρ 4))), (0, .ref xo), (1, .int (nI x)), (2, .int (nI y))] → W p l e (xRmG 40 1500 10 60) s m args below meth c H locs 1 6 Q (F0 m 20 ls [.int (nI (aB ρ y))]) := by
    intro H locs ls hw hl
    refine lv_istore (lv' := [(4, .int (nI (aB ρ y))), (3, .int (nI (ρ 4))), (0, .ref xo), (1, .int (nI x)), (2, .int (nI y))]) hx hb dL_act_20 hl (by decide) rfl (fun ls hl => ?_)
    refine lv_iload_n hx hb dL_act_22 rfl (lv_at hl 4 rfl) ?_
    refine lv_bipush (v := (nI 8)) hx hb dL_act_23 (by decide) ?_
    refine x_idiv M (n := y / 8) dL_act_25 (by omega) (by omega) (by decide) rfl ?_
    refine lv_iconst (v := (nI 3)) hx hb dL_act_26 (by decide) ?_
    refine x_irem M (n := (y / 8) % 3) dL_act_27 (by omega) (by omega) (by decide) rfl ?_
    refine lv_istore (lv' := [(5, .int (nI ((y / 8) % 3))), (4, .int (nI (aB ρ y))), (3, .int (nI (ρ 4))), (0, .ref xo), (1, .int (nI x)), (2, .int (nI y))]) hx hb dL_act_28 hl (by decide) rfl (fun ls hl => ?_)
    refine lv_iload_n hx hb dL_act_30 rfl (lv_at hl 4 rfl) ?_
    refine lv_bipush (v := (nI 24)) hx hb dL_act_31 (by decide) ?_
    refine x_irem M (n := x % 24) dL_act_33 (by omega) (by omega) (by decide) rfl ?_
    have L470 : ∀ (H : Heap) (locs : List Loc) (ls : Array Slot), xW G A s.heap (oW Y xo h0 h1 hh hb2 sl a0 a1 sv tz az ρ nx ct rr κ0 κ1 fl tn lt γ κ γ1 gg δ0 δ1 lf tk bt bw) H locs → lv_has ls 6 [(5, .int (nI ((y / 8) % 3))), (4, .int (nI (aB ρ y))), (3, .int (nI (ρ 4))), (0, .ref xo), (1, .int (nI x)), (2, .int (nI y))] → W p l e (xRmG 40 1500 10 60) s m args below meth c H locs 1 6 Q (F0 m 470 ls []) := by
      intro H locs ls hw hl
      refine lv_aload_n hx hb dL_act_470 rfl (lv_at hl 3 rfl) ?_
      refine lv_iload hx hb dL_act_471 (lv_at hl 1 rfl) ?_
      refine lv_iload_n hx hb dL_act_473 rfl (lv_at hl 5 rfl) ?_
      refine lv_bipush (v := (nI 32)) hx hb dL_act_474 (by decide) ?_
      refine x_idiv M (n := y / 32) dL_act_476 (by omega) (by omega) (by decide) rfl ?_
      refine lv_iconst (v := (nI 3)) hx hb dL_act_477 (by decide) ?_
      refine x_irem M (n := (y / 32) % 3) dL_act_478 (by omega) (by omega) (by decide) rfl ?_
      refine lv_iload_n hx hb dL_act_479 rfl (lv_at hl 5 rfl) ?_
      refine lv_sipush (v := (nI 128)) hx hb dL_act_480 (by decide) ?_
      refine x_idiv M (n := y / 128) dL_act_483 (by omega) (by omega) (by decide) rfl ?_
      refine lv_iconst (v := (nI 3)) hx hb dL_act_484 (by decide) ?_
      refine x_irem M (n := (y / 128) % 3) dL_act_485 (by omega) (by omega) (by decide) rfl ?_
      refine lv_iload_n hx hb dL_act_486 rfl (lv_at hl 5 rfl) ?_
      refine lv_sipush (v := (nI 512)) hx hb dL_act_487 (by decide) ?_
      refine x_idiv M (n := y / 512) dL_act_490 (by omega) (by omega) (by decide) rfl ?_
      refine lv_iconst (v := (nI 3)) hx hb dL_act_491 (by decide) ?_
      refine x_irem M (n := (y / 512) % 3) dL_act_492 (by omega) (by omega) (by decide) rfl ?_
      refine lv_iconst (v := (nI 1)) hx hb dL_act_493 (by decide) ?_
      refine lv_iload_n hx hb dL_act_494 rfl (lv_at hl 5 rfl) ?_
      refine lv_sipush (v := (nI 2048)) hx hb dL_act_495 (by decide) ?_
      refine x_idiv M (n := y / 2048) dL_act_498 (by omega) (by omega) (by decide) rfl ?_
      refine lv_sipush (v := (nI 400)) hx hb dL_act_499 (by decide) ?_
      refine x_irem M (n := (y / 2048) % 400) dL_act_502 (by omega) (by omega) (by decide) rfl ?_
      refine x_iadd M (n := 1 + ((y / 2048) % 400)) dL_act_503 rfl ?_
      refine x_cSL2 (As := [.ref xo, .int (nI (aB ρ y)), .int (nI ((y / 32) % 3)), .int (nI ((y / 128) % 3)), .int (nI ((y / 512) % 3)), .int (nI (1 + ((y / 2048) % 400)))]) hC cl_tryAdd [0, 1, 2, 3, 4, 5, 6, 7, 8, 9, 10] M hK hZ hN hw hl.1 rfl (by decide) ⟨by show _ ≤ 40; omega, by show _ ≤ 1500; omega⟩ ⟨by show _ ≤ 10; omega, by show _ ≤ 60; omega⟩ rfl rfl (Nat.le_of_ble_eq_true rfl) dL_act_504 (fun r sg hr ha H locs hw => ?_)
      have hw : xW G A s.heap sg H locs := by rw [← xPut_all ha]; exact hw
      exact hret _ _ _ r _ _ _ _ (by show _ ≤ 10; omega) (by show _ ≤ 60; omega) dL_act_507 hw rfl ha (hpp r sg hr)
    rcases hq with hq | hq
    · refine x_topN (n := 22) (congrArg nI hq) ?_
      refine lv_tableOut (tgt := 470) hx hb dL_act_34 (by decide) (by decide) ?_
      exact L470 _ _ _ hw hl
    · refine x_topN (n := 23) (congrArg nI hq) ?_
      refine lv_tableOut (tgt := 470) hx hb dL_act_34 (by decide) (by decide) ?_
      exact L470 _ _ _ hw hl
  refine lv_iload_n hx hb dL_act_9 rfl (lv_at hl 0 rfl) ?_
  refine x_zne M (tgt := 17) (by omega) dL_act_10 (by decide) (fun c_n => ?_) (fun c_n => ?_)
  · refine lv_iload_n hx hb dL_act_17 rfl (lv_at hl 3 rfl) ?_
    refine lv_iload_n hx hb dL_act_18 rfl (lv_at hl 0 rfl) ?_
    refine x_irem M (n := y % (ρ 4)) dL_act_19 (by omega) (by omega) (by omega) rfl ?_
    refine x_topN (n := aB ρ y) (congrArg nI (aB_1 c_n)) ?_
    refine W_widen (k := 1) (n := 6) (by omega) (by omega) ?_
    exact L20 _ _ _ hw (lv_sub hl [0, 1, 2, 3] rfl)
  refine lv_iconst (v := (nI 0)) hx hb dL_act_13 (by decide) ?_
  refine lv_goto (tgt := 20) hx hb dL_act_14 (by decide) ?_
  refine x_topN (n := aB ρ y) (congrArg nI (aB_0 c_n)) ?_
  refine W_widen (k := 1) (n := 6) (by omega) (by omega) ?_
  exact L20 _ _ _ hw (lv_sub hl [0, 1, 2, 3] rfl)
