set_option maxHeartbeats 1000000 in
theorem lk_append (l : Launch) (G : va_G) (Y : Nat → Nat) (xo ot : Nat) (c1 : Int32) (f : Nat → Int64) (fs : List Value) (segsC : List va_W) {post : Int32 → List va_W → Prop} {fr lo : Nat} (hC : CtI l yX5_append cX5_append 2 .int fr lo [.ref xo, .int c1] segsC post G Y) (hs0 : segsC[0]? = some [(xo, .inr (4, fs))]) : CtL l yL_append cL_append 4 [(0, 9, 12, 13), (0, 9, 15, 15)] (fr + 1) (8 + (2 + 11) + lo) [.ref xo, .int c1, .ref ot] (outS Y ot f :: segsC) (fun k sg => k = nI 0 ∧ ∃ r sg1, post r sg1 ∧ sg = outS Y ot (vp_updL f 0 r.toInt64) :: sg1) G Y := by
  refine x_ofL (by decide) (Nat.le_of_ble_eq_true rfl) (fun p e s m args below meth c A ls Q M hK hZ hN hw hl htab hret => ?_)
  obtain ⟨hx, hb, -⟩ := id M
  have hl : lv_has ls 4 [(0, .ref xo), (1, .int c1), (2, .ref ot)] := hl
  refine lv_aload_n hx hb dL_append_0 rfl (lv_at hl 2 rfl) ?_
  refine lv_iconst (v := nI 0) hx hb dL_append_1 (by decide) ?_
  refine lv_aload_n hx hb dL_append_2 rfl (lv_at hl 0 rfl) ?_
  refine lv_iload_n hx hb dL_append_3 rfl (lv_at hl 1 rfl) ?_
  refine x_cVI2 (As := [.int c1]) hC cw_L_7 (tailI segsC.length) 1 0 M hK hZ hw hl.1 tailI_get tailI_nd hs0 rfl rfl ⟨Nat.le_refl _, Nat.le_refl _⟩ ⟨Nat.zero_le _, Nat.zero_le _⟩ rfl rfl (Nat.le_of_ble_eq_true rfl) dL_append_4 (fun r sg hp ha H locs hw => ?_)
  rw [xPut_tail ha] at hw
  refine lv_i2l (v := r.toInt64) hx hb dL_append_7 rfl ?_
  refine x_last M hK hw 0 0 rfl rfl (by decide) (by decide) dL_append_8 (fun H locs hw => ?_)
  refine lv_goto (tgt := 18) hx hb dL_append_9 (by decide) ?_
  refine lv_iconst (v := nI 0) hx hb dL_append_18 (by decide) ?_
  exact hret _ _ _ (nI 0) _ _ 0 0 (by decide) (by decide) dL_append_19 hw (by show _ :: sg.map ads = _ :: segsC.map ads; rw [ha]; rfl) ⟨rfl, r, sg, hp, rfl⟩
set_option maxHeartbeats 1000000 in
theorem lt_append_1 (l : Launch) (G : va_G) (Y : Nat → Nat) (xo ot : Nat) (c1 : Int32) (f : Nat → Int64) (fs : List Value) (segsC : List va_W) {fr lo : Nat} (hC : CtT l yX5_append cX5_append 2 (some .int) fr lo [.ref xo, .int c1] segsC eIAE G Y) (hs0 : segsC[0]? = some [(xo, .inr (4, fs))]) : CtL l yL_append cL_append 4 [(0, 9, 12, 13), (0, 9, 15, 15)] (fr + 1) (8 + (2 + 11) + lo) [.ref xo, .int c1, .ref ot] (outS Y ot f :: segsC) (fun k sg => k = nI 1 ∧ sg = outS Y ot f :: segsC) G Y := by
  refine x_ofL (by decide) (Nat.le_of_ble_eq_true rfl) (fun p e s m args below meth c A ls Q M hK hZ hN hw hl htab hret => ?_)
  obtain ⟨hx, hb, -⟩ := id M
  have hl : lv_has ls 4 [(0, .ref xo), (1, .int c1), (2, .ref ot)] := hl
  refine lv_aload_n hx hb dL_append_0 rfl (lv_at hl 2 rfl) ?_
  refine lv_iconst (v := nI 0) hx hb dL_append_1 (by decide) ?_
  refine lv_aload_n hx hb dL_append_2 rfl (lv_at hl 0 rfl) ?_
  refine lv_iload_n hx hb dL_append_3 rfl (lv_at hl 1 rfl) ?_
  refine x_catchV (As := [.int c1]) (ri := 1) (rj := 0) (pre := []) (xh := { startPc := 0, endPc := 9, handlerPc := 12, catchType := 13 }) (suf := [{ startPc := 0, endPc := 9, handlerPc := 15, catchType := 15 }]) hC cw_L_7 (tailI segsC.length) M hK hZ hw hl.1 tailI_get tailI_nd hs0 rfl rfl ⟨Nat.le_refl _, Nat.le_refl _⟩ ⟨Nat.le_refl _, Nat.le_refl _⟩ rfl rfl (Nat.le_of_ble_eq_true rfl) dL_append_4 (htab.trans rfl) (fun z hz => nomatch hz) (by decide) (by decide) mw_441 (cast_self (M.2.2.2.2 _ mw_451)) (fun q H locs hw => ?_)
  refine lv_astore_n (lv' := [(3, .ref q), (0, .ref xo), (1, .int c1), (2, .ref ot)]) hx hb dL_append_12 rfl hl (by decide) rfl (fun ls hl => ?_)
  refine lv_iconst (v := nI 1) hx hb dL_append_13 (by decide) ?_
  exact hret _ _ _ (nI 1) _ _ 1 6 (by decide) (by decide) dL_append_14 hw rfl ⟨rfl, rfl⟩
set_option maxHeartbeats 1000000 in
theorem lt_append_2 (l : Launch) (G : va_G) (Y : Nat → Nat) (xo ot : Nat) (c1 : Int32) (f : Nat → Int64) (fs : List Value) (segsC : List va_W) {fr lo : Nat} (hC : CtT l yX5_append cX5_append 2 (some .int) fr lo [.ref xo, .int c1] segsC eISE G Y) (hs0 : segsC[0]? = some [(xo, .inr (4, fs))]) : CtL l yL_append cL_append 4 [(0, 9, 12, 13), (0, 9, 15, 15)] (fr + 1) (8 + (2 + 11) + lo) [.ref xo, .int c1, .ref ot] (outS Y ot f :: segsC) (fun k sg => k = nI 2 ∧ sg = outS Y ot f :: segsC) G Y := by
  refine x_ofL (by decide) (Nat.le_of_ble_eq_true rfl) (fun p e s m args below meth c A ls Q M hK hZ hN hw hl htab hret => ?_)
  obtain ⟨hx, hb, -⟩ := id M
  have hl : lv_has ls 4 [(0, .ref xo), (1, .int c1), (2, .ref ot)] := hl
  refine lv_aload_n hx hb dL_append_0 rfl (lv_at hl 2 rfl) ?_
  refine lv_iconst (v := nI 0) hx hb dL_append_1 (by decide) ?_
  refine lv_aload_n hx hb dL_append_2 rfl (lv_at hl 0 rfl) ?_
  refine lv_iload_n hx hb dL_append_3 rfl (lv_at hl 1 rfl) ?_
  refine x_catchV (As := [.int c1]) (ri := 1) (rj := 0) (pre := [{ startPc := 0, endPc := 9, handlerPc := 12, catchType := 13 }]) (xh := { startPc := 0, endPc := 9, handlerPc := 15, catchType := 15 }) (suf := []) hC cw_L_7 (tailI segsC.length) M hK hZ hw hl.1 tailI_get tailI_nd hs0 rfl rfl ⟨Nat.le_refl _, Nat.le_refl _⟩ ⟨Nat.le_refl _, Nat.le_refl _⟩ rfl rfl (Nat.le_of_ble_eq_true rfl) dL_append_4 (htab.trans rfl) (fun z hz => by obtain rfl := List.mem_singleton.mp hz; exact Or.inr ⟨by decide, _, mw_441, hN.2.2⟩) (by decide) (by decide) mw_442 (cast_self (M.2.2.2.2 _ mw_522)) (fun q H locs hw => ?_)
  refine lv_astore_n (lv' := [(3, .ref q), (0, .ref xo), (1, .int c1), (2, .ref ot)]) hx hb dL_append_15 rfl hl (by decide) rfl (fun ls hl => ?_)
  refine lv_iconst (v := nI 2) hx hb dL_append_16 (by decide) ?_
  exact hret _ _ _ (nI 2) _ _ 1 6 (by decide) (by decide) dL_append_17 hw rfl ⟨rfl, rfl⟩
set_option maxHeartbeats 1000000 in
theorem lk_load (l : Launch) (G : va_G) (Y : Nat → Nat) (xo ot : Nat)  (f : Nat → Int64) (fs : List Value) (segsC : List va_W) {post : Int32 → List va_W → Prop} {fr lo : Nat} (hC : CtI l yX5_load cX5_load 2 .int fr lo [.ref xo] segsC post G Y) (hs0 : segsC[0]? = some [(xo, .inr (4, fs))]) : CtL l yL_load cL_load 3 [(0, 8, 11, 15)] (fr + 1) (8 + (2 + 11) + lo) [.ref xo, .ref ot] (outS Y ot f :: segsC) (fun k sg => k = nI 0 ∧ ∃ r sg1, post r sg1 ∧ sg = outS Y ot (vp_updL f 0 r.toInt64) :: sg1) G Y := by
  refine x_ofL (by decide) (Nat.le_of_ble_eq_true rfl) (fun p e s m args below meth c A ls Q M hK hZ hN hw hl htab hret => ?_)
  obtain ⟨hx, hb, -⟩ := id M
  have hl : lv_has ls 3 [(0, .ref xo), (1, .ref ot)] := hl
  refine lv_aload_n hx hb dL_load_0 rfl (lv_at hl 1 rfl) ?_
  refine lv_iconst (v := nI 0) hx hb dL_load_1 (by decide) ?_
  refine lv_aload_n hx hb dL_load_2 rfl (lv_at hl 0 rfl) ?_
  refine x_cVI2 (As := []) hC cw_L_17 (tailI segsC.length) 1 0 M hK hZ hw hl.1 tailI_get tailI_nd hs0 rfl rfl ⟨Nat.le_refl _, Nat.le_refl _⟩ ⟨Nat.zero_le _, Nat.zero_le _⟩ rfl rfl (Nat.le_of_ble_eq_true rfl) dL_load_3 (fun r sg hp ha H locs hw => ?_)
  rw [xPut_tail ha] at hw
  refine lv_i2l (v := r.toInt64) hx hb dL_load_6 rfl ?_
  refine x_last M hK hw 0 0 rfl rfl (by decide) (by decide) dL_load_7 (fun H locs hw => ?_)
  refine lv_goto (tgt := 14) hx hb dL_load_8 (by decide) ?_
  refine lv_iconst (v := nI 0) hx hb dL_load_14 (by decide) ?_
  exact hret _ _ _ (nI 0) _ _ 0 0 (by decide) (by decide) dL_load_15 hw (by show _ :: sg.map ads = _ :: segsC.map ads; rw [ha]; rfl) ⟨rfl, r, sg, hp, rfl⟩
set_option maxHeartbeats 1000000 in
theorem lt_load_1 (l : Launch) (G : va_G) (Y : Nat → Nat) (xo ot : Nat)  (f : Nat → Int64) (fs : List Value) (segsC : List va_W) {fr lo : Nat} (hC : CtT l yX5_load cX5_load 2 (some .int) fr lo [.ref xo] segsC eISE G Y) (hs0 : segsC[0]? = some [(xo, .inr (4, fs))]) : CtL l yL_load cL_load 3 [(0, 8, 11, 15)] (fr + 1) (8 + (2 + 11) + lo) [.ref xo, .ref ot] (outS Y ot f :: segsC) (fun k sg => k = nI 1 ∧ sg = outS Y ot f :: segsC) G Y := by
  refine x_ofL (by decide) (Nat.le_of_ble_eq_true rfl) (fun p e s m args below meth c A ls Q M hK hZ hN hw hl htab hret => ?_)
  obtain ⟨hx, hb, -⟩ := id M
  have hl : lv_has ls 3 [(0, .ref xo), (1, .ref ot)] := hl
  refine lv_aload_n hx hb dL_load_0 rfl (lv_at hl 1 rfl) ?_
  refine lv_iconst (v := nI 0) hx hb dL_load_1 (by decide) ?_
  refine lv_aload_n hx hb dL_load_2 rfl (lv_at hl 0 rfl) ?_
  refine x_catchV (As := []) (ri := 1) (rj := 0) (pre := []) (xh := { startPc := 0, endPc := 8, handlerPc := 11, catchType := 15 }) (suf := []) hC cw_L_17 (tailI segsC.length) M hK hZ hw hl.1 tailI_get tailI_nd hs0 rfl rfl ⟨Nat.le_refl _, Nat.le_refl _⟩ ⟨Nat.le_refl _, Nat.le_refl _⟩ rfl rfl (Nat.le_of_ble_eq_true rfl) dL_load_3 (htab.trans rfl) (fun z hz => nomatch hz) (by decide) (by decide) mw_442 (cast_self (M.2.2.2.2 _ mw_522)) (fun q H locs hw => ?_)
  refine lv_astore_n (lv' := [(2, .ref q), (0, .ref xo), (1, .ref ot)]) hx hb dL_load_11 rfl hl (by decide) rfl (fun ls hl => ?_)
  refine lv_iconst (v := nI 1) hx hb dL_load_12 (by decide) ?_
  exact hret _ _ _ (nI 1) _ _ 1 6 (by decide) (by decide) dL_load_13 hw rfl ⟨rfl, rfl⟩
set_option maxHeartbeats 1000000 in
theorem lk_about (l : Launch) (G : va_G) (Y : Nat → Nat) (xo ot : Nat) (c1 : Int32) (f : Nat → Int64) (fs : List Value) (segsC : List va_W) {post : Int32 → List va_W → Prop} {fr lo : Nat} (hC : CtI l yX5_about cX5_about 2 .int fr lo [.ref xo, .int c1] segsC post G Y) (hs0 : segsC[0]? = some [(xo, .inr (4, fs))]) : CtL l yL_about cL_about 4 [(0, 9, 12, 13)] (fr + 1) (8 + (2 + 11) + lo) [.ref xo, .int c1, .ref ot] (outS Y ot f :: segsC) (fun k sg => k = nI 0 ∧ ∃ r sg1, post r sg1 ∧ sg = outS Y ot (vp_updL f 0 r.toInt64) :: sg1) G Y := by
  refine x_ofL (by decide) (Nat.le_of_ble_eq_true rfl) (fun p e s m args below meth c A ls Q M hK hZ hN hw hl htab hret => ?_)
  obtain ⟨hx, hb, -⟩ := id M
  have hl : lv_has ls 4 [(0, .ref xo), (1, .int c1), (2, .ref ot)] := hl
  refine lv_aload_n hx hb dL_about_0 rfl (lv_at hl 2 rfl) ?_
  refine lv_iconst (v := nI 0) hx hb dL_about_1 (by decide) ?_
  refine lv_aload_n hx hb dL_about_2 rfl (lv_at hl 0 rfl) ?_
  refine lv_iload_n hx hb dL_about_3 rfl (lv_at hl 1 rfl) ?_
  refine x_cVI2 (As := [.int c1]) hC cw_L_21 (tailI segsC.length) 1 0 M hK hZ hw hl.1 tailI_get tailI_nd hs0 rfl rfl ⟨Nat.le_refl _, Nat.le_refl _⟩ ⟨Nat.zero_le _, Nat.zero_le _⟩ rfl rfl (Nat.le_of_ble_eq_true rfl) dL_about_4 (fun r sg hp ha H locs hw => ?_)
  rw [xPut_tail ha] at hw
  refine lv_i2l (v := r.toInt64) hx hb dL_about_7 rfl ?_
  refine x_last M hK hw 0 0 rfl rfl (by decide) (by decide) dL_about_8 (fun H locs hw => ?_)
  refine lv_goto (tgt := 15) hx hb dL_about_9 (by decide) ?_
  refine lv_iconst (v := nI 0) hx hb dL_about_15 (by decide) ?_
  exact hret _ _ _ (nI 0) _ _ 0 0 (by decide) (by decide) dL_about_16 hw (by show _ :: sg.map ads = _ :: segsC.map ads; rw [ha]; rfl) ⟨rfl, r, sg, hp, rfl⟩
set_option maxHeartbeats 1000000 in
theorem lt_about_1 (l : Launch) (G : va_G) (Y : Nat → Nat) (xo ot : Nat) (c1 : Int32) (f : Nat → Int64) (fs : List Value) (segsC : List va_W) {fr lo : Nat} (hC : CtT l yX5_about cX5_about 2 (some .int) fr lo [.ref xo, .int c1] segsC eIAE G Y) (hs0 : segsC[0]? = some [(xo, .inr (4, fs))]) : CtL l yL_about cL_about 4 [(0, 9, 12, 13)] (fr + 1) (8 + (2 + 11) + lo) [.ref xo, .int c1, .ref ot] (outS Y ot f :: segsC) (fun k sg => k = nI 1 ∧ sg = outS Y ot f :: segsC) G Y := by
  refine x_ofL (by decide) (Nat.le_of_ble_eq_true rfl) (fun p e s m args below meth c A ls Q M hK hZ hN hw hl htab hret => ?_)
  obtain ⟨hx, hb, -⟩ := id M
  have hl : lv_has ls 4 [(0, .ref xo), (1, .int c1), (2, .ref ot)] := hl
  refine lv_aload_n hx hb dL_about_0 rfl (lv_at hl 2 rfl) ?_
  refine lv_iconst (v := nI 0) hx hb dL_about_1 (by decide) ?_
  refine lv_aload_n hx hb dL_about_2 rfl (lv_at hl 0 rfl) ?_
  refine lv_iload_n hx hb dL_about_3 rfl (lv_at hl 1 rfl) ?_
  refine x_catchV (As := [.int c1]) (ri := 1) (rj := 0) (pre := []) (xh := { startPc := 0, endPc := 9, handlerPc := 12, catchType := 13 }) (suf := []) hC cw_L_21 (tailI segsC.length) M hK hZ hw hl.1 tailI_get tailI_nd hs0 rfl rfl ⟨Nat.le_refl _, Nat.le_refl _⟩ ⟨Nat.le_refl _, Nat.le_refl _⟩ rfl rfl (Nat.le_of_ble_eq_true rfl) dL_about_4 (htab.trans rfl) (fun z hz => nomatch hz) (by decide) (by decide) mw_441 (cast_self (M.2.2.2.2 _ mw_451)) (fun q H locs hw => ?_)
  refine lv_astore_n (lv' := [(3, .ref q), (0, .ref xo), (1, .int c1), (2, .ref ot)]) hx hb dL_about_12 rfl hl (by decide) rfl (fun ls hl => ?_)
  refine lv_iconst (v := nI 1) hx hb dL_about_13 (by decide) ?_
  exact hret _ _ _ (nI 1) _ _ 1 6 (by decide) (by decide) dL_about_14 hw rfl ⟨rfl, rfl⟩
set_option maxHeartbeats 1000000 in
theorem lk_kind (l : Launch) (G : va_G) (Y : Nat → Nat) (xo ot : Nat) (c1 : Int32) (c2 : Int32) (f : Nat → Int64) (fs : List Value) (segsC : List va_W) {post : Int32 → List va_W → Prop} {fr lo : Nat} (hC : CtI l yX5_kind cX5_kind 3 .int fr lo [.ref xo, .int c1, .int c2] segsC post G Y) (hs0 : segsC[0]? = some [(xo, .inr (4, fs))]) : CtL l yL_kind cL_kind 5 [(0, 10, 13, 28), (0, 10, 17, 13)] (fr + 1) (8 + (3 + 11) + lo) [.ref xo, .int c1, .int c2, .ref ot] (outS Y ot f :: segsC) (fun k sg => k = nI 0 ∧ ∃ r sg1, post r sg1 ∧ sg = outS Y ot (vp_updL f 0 r.toInt64) :: sg1) G Y := by
  refine x_ofL (by decide) (Nat.le_of_ble_eq_true rfl) (fun p e s m args below meth c A ls Q M hK hZ hN hw hl htab hret => ?_)
  obtain ⟨hx, hb, -⟩ := id M
  have hl : lv_has ls 5 [(0, .ref xo), (1, .int c1), (2, .int c2), (3, .ref ot)] := hl
  refine lv_aload_n hx hb dL_kind_0 rfl (lv_at hl 3 rfl) ?_
  refine lv_iconst (v := nI 0) hx hb dL_kind_1 (by decide) ?_
  refine lv_aload_n hx hb dL_kind_2 rfl (lv_at hl 0 rfl) ?_
  refine lv_iload_n hx hb dL_kind_3 rfl (lv_at hl 1 rfl) ?_
  refine lv_iload_n hx hb dL_kind_4 rfl (lv_at hl 2 rfl) ?_
  refine x_cVI2 (As := [.int c1, .int c2]) hC cw_L_24 (tailI segsC.length) 1 0 M hK hZ hw hl.1 tailI_get tailI_nd hs0 rfl rfl ⟨Nat.le_refl _, Nat.le_refl _⟩ ⟨Nat.zero_le _, Nat.zero_le _⟩ rfl rfl (Nat.le_of_ble_eq_true rfl) dL_kind_5 (fun r sg hp ha H locs hw => ?_)
  rw [xPut_tail ha] at hw
  refine lv_i2l (v := r.toInt64) hx hb dL_kind_8 rfl ?_
  refine x_last M hK hw 0 0 rfl rfl (by decide) (by decide) dL_kind_9 (fun H locs hw => ?_)
  refine lv_goto (tgt := 21) hx hb dL_kind_10 (by decide) ?_
  refine lv_iconst (v := nI 0) hx hb dL_kind_21 (by decide) ?_
  exact hret _ _ _ (nI 0) _ _ 0 0 (by decide) (by decide) dL_kind_22 hw (by show _ :: sg.map ads = _ :: segsC.map ads; rw [ha]; rfl) ⟨rfl, r, sg, hp, rfl⟩
set_option maxHeartbeats 1000000 in
theorem lt_kind_1 (l : Launch) (G : va_G) (Y : Nat → Nat) (xo ot : Nat) (c1 : Int32) (c2 : Int32) (f : Nat → Int64) (fs : List Value) (segsC : List va_W) {fr lo : Nat} (hC : CtT l yX5_kind cX5_kind 3 (some .int) fr lo [.ref xo, .int c1, .int c2] segsC eIOB G Y) (hs0 : segsC[0]? = some [(xo, .inr (4, fs))]) : CtL l yL_kind cL_kind 5 [(0, 10, 13, 28), (0, 10, 17, 13)] (fr + 1) (8 + (3 + 11) + lo) [.ref xo, .int c1, .int c2, .ref ot] (outS Y ot f :: segsC) (fun k sg => k = nI 1 ∧ sg = outS Y ot f :: segsC) G Y := by
  refine x_ofL (by decide) (Nat.le_of_ble_eq_true rfl) (fun p e s m args below meth c A ls Q M hK hZ hN hw hl htab hret => ?_)
  obtain ⟨hx, hb, -⟩ := id M
  have hl : lv_has ls 5 [(0, .ref xo), (1, .int c1), (2, .int c2), (3, .ref ot)] := hl
  refine lv_aload_n hx hb dL_kind_0 rfl (lv_at hl 3 rfl) ?_
  refine lv_iconst (v := nI 0) hx hb dL_kind_1 (by decide) ?_
  refine lv_aload_n hx hb dL_kind_2 rfl (lv_at hl 0 rfl) ?_
  refine lv_iload_n hx hb dL_kind_3 rfl (lv_at hl 1 rfl) ?_
  refine lv_iload_n hx hb dL_kind_4 rfl (lv_at hl 2 rfl) ?_
  refine x_catchV (As := [.int c1, .int c2]) (ri := 1) (rj := 0) (pre := []) (xh := { startPc := 0, endPc := 10, handlerPc := 13, catchType := 28 }) (suf := [{ startPc := 0, endPc := 10, handlerPc := 17, catchType := 13 }]) hC cw_L_24 (tailI segsC.length) M hK hZ hw hl.1 tailI_get tailI_nd hs0 rfl rfl ⟨Nat.le_refl _, Nat.le_refl _⟩ ⟨Nat.le_refl _, Nat.le_refl _⟩ rfl rfl (Nat.le_of_ble_eq_true rfl) dL_kind_5 (htab.trans rfl) (fun z hz => nomatch hz) (by decide) (by decide) mw_655 (cast_self (M.2.2.2.2 _ mw_666)) (fun q H locs hw => ?_)
  refine lv_astore (lv' := [(4, .ref q), (0, .ref xo), (1, .int c1), (2, .int c2), (3, .ref ot)]) hx hb dL_kind_13 hl (by decide) rfl (fun ls hl => ?_)
  refine lv_iconst (v := nI 1) hx hb dL_kind_15 (by decide) ?_
  exact hret _ _ _ (nI 1) _ _ 1 6 (by decide) (by decide) dL_kind_16 hw rfl ⟨rfl, rfl⟩
set_option maxHeartbeats 1000000 in
theorem lt_kind_2 (l : Launch) (G : va_G) (Y : Nat → Nat) (xo ot : Nat) (c1 : Int32) (c2 : Int32) (f : Nat → Int64) (fs : List Value) (segsC : List va_W) {fr lo : Nat} (hC : CtT l yX5_kind cX5_kind 3 (some .int) fr lo [.ref xo, .int c1, .int c2] segsC eIAE G Y) (hs0 : segsC[0]? = some [(xo, .inr (4, fs))]) : CtL l yL_kind cL_kind 5 [(0, 10, 13, 28), (0, 10, 17, 13)] (fr + 1) (8 + (3 + 11) + lo) [.ref xo, .int c1, .int c2, .ref ot] (outS Y ot f :: segsC) (fun k sg => k = nI 2 ∧ sg = outS Y ot f :: segsC) G Y := by
  refine x_ofL (by decide) (Nat.le_of_ble_eq_true rfl) (fun p e s m args below meth c A ls Q M hK hZ hN hw hl htab hret => ?_)
  obtain ⟨hx, hb, -⟩ := id M
  have hl : lv_has ls 5 [(0, .ref xo), (1, .int c1), (2, .int c2), (3, .ref ot)] := hl
  refine lv_aload_n hx hb dL_kind_0 rfl (lv_at hl 3 rfl) ?_
  refine lv_iconst (v := nI 0) hx hb dL_kind_1 (by decide) ?_
  refine lv_aload_n hx hb dL_kind_2 rfl (lv_at hl 0 rfl) ?_
  refine lv_iload_n hx hb dL_kind_3 rfl (lv_at hl 1 rfl) ?_
  refine lv_iload_n hx hb dL_kind_4 rfl (lv_at hl 2 rfl) ?_
  refine x_catchV (As := [.int c1, .int c2]) (ri := 1) (rj := 0) (pre := [{ startPc := 0, endPc := 10, handlerPc := 13, catchType := 28 }]) (xh := { startPc := 0, endPc := 10, handlerPc := 17, catchType := 13 }) (suf := []) hC cw_L_24 (tailI segsC.length) M hK hZ hw hl.1 tailI_get tailI_nd hs0 rfl rfl ⟨Nat.le_refl _, Nat.le_refl _⟩ ⟨Nat.le_refl _, Nat.le_refl _⟩ rfl rfl (Nat.le_of_ble_eq_true rfl) dL_kind_5 (htab.trans rfl) (fun z hz => by obtain rfl := List.mem_singleton.mp hz; exact Or.inr ⟨by decide, _, mw_655, hN.1⟩) (by decide) (by decide) mw_441 (cast_self (M.2.2.2.2 _ mw_451)) (fun q H locs hw => ?_)
  refine lv_astore (lv' := [(4, .ref q), (0, .ref xo), (1, .int c1), (2, .int c2), (3, .ref ot)]) hx hb dL_kind_17 hl (by decide) rfl (fun ls hl => ?_)
  refine lv_iconst (v := nI 2) hx hb dL_kind_19 (by decide) ?_
  exact hret _ _ _ (nI 2) _ _ 1 6 (by decide) (by decide) dL_kind_20 hw rfl ⟨rfl, rfl⟩
set_option maxHeartbeats 1000000 in
theorem lk_bidder (l : Launch) (G : va_G) (Y : Nat → Nat) (xo ot : Nat) (c1 : Int32) (c2 : Int32) (f : Nat → Int64) (fs : List Value) (segsC : List va_W) {post : Int32 → List va_W → Prop} {fr lo : Nat} (hC : CtI l yX5_bidder cX5_bidder 3 .int fr lo [.ref xo, .int c1, .int c2] segsC post G Y) (hs0 : segsC[0]? = some [(xo, .inr (4, fs))]) : CtL l yL_bidder cL_bidder 5 [(0, 10, 13, 28), (0, 10, 17, 13)] (fr + 1) (8 + (3 + 11) + lo) [.ref xo, .int c1, .int c2, .ref ot] (outS Y ot f :: segsC) (fun k sg => k = nI 0 ∧ ∃ r sg1, post r sg1 ∧ sg = outS Y ot (vp_updL f 0 r.toInt64) :: sg1) G Y := by
  refine x_ofL (by decide) (Nat.le_of_ble_eq_true rfl) (fun p e s m args below meth c A ls Q M hK hZ hN hw hl htab hret => ?_)
  obtain ⟨hx, hb, -⟩ := id M
  have hl : lv_has ls 5 [(0, .ref xo), (1, .int c1), (2, .int c2), (3, .ref ot)] := hl
  refine lv_aload_n hx hb dL_bidder_0 rfl (lv_at hl 3 rfl) ?_
  refine lv_iconst (v := nI 0) hx hb dL_bidder_1 (by decide) ?_
  refine lv_aload_n hx hb dL_bidder_2 rfl (lv_at hl 0 rfl) ?_
  refine lv_iload_n hx hb dL_bidder_3 rfl (lv_at hl 1 rfl) ?_
  refine lv_iload_n hx hb dL_bidder_4 rfl (lv_at hl 2 rfl) ?_
  refine x_cVI2 (As := [.int c1, .int c2]) hC cw_L_30 (tailI segsC.length) 1 0 M hK hZ hw hl.1 tailI_get tailI_nd hs0 rfl rfl ⟨Nat.le_refl _, Nat.le_refl _⟩ ⟨Nat.zero_le _, Nat.zero_le _⟩ rfl rfl (Nat.le_of_ble_eq_true rfl) dL_bidder_5 (fun r sg hp ha H locs hw => ?_)
  rw [xPut_tail ha] at hw
  refine lv_i2l (v := r.toInt64) hx hb dL_bidder_8 rfl ?_
  refine x_last M hK hw 0 0 rfl rfl (by decide) (by decide) dL_bidder_9 (fun H locs hw => ?_)
  refine lv_goto (tgt := 21) hx hb dL_bidder_10 (by decide) ?_
  refine lv_iconst (v := nI 0) hx hb dL_bidder_21 (by decide) ?_
  exact hret _ _ _ (nI 0) _ _ 0 0 (by decide) (by decide) dL_bidder_22 hw (by show _ :: sg.map ads = _ :: segsC.map ads; rw [ha]; rfl) ⟨rfl, r, sg, hp, rfl⟩
set_option maxHeartbeats 1000000 in
theorem lt_bidder_1 (l : Launch) (G : va_G) (Y : Nat → Nat) (xo ot : Nat) (c1 : Int32) (c2 : Int32) (f : Nat → Int64) (fs : List Value) (segsC : List va_W) {fr lo : Nat} (hC : CtT l yX5_bidder cX5_bidder 3 (some .int) fr lo [.ref xo, .int c1, .int c2] segsC eIOB G Y) (hs0 : segsC[0]? = some [(xo, .inr (4, fs))]) : CtL l yL_bidder cL_bidder 5 [(0, 10, 13, 28), (0, 10, 17, 13)] (fr + 1) (8 + (3 + 11) + lo) [.ref xo, .int c1, .int c2, .ref ot] (outS Y ot f :: segsC) (fun k sg => k = nI 1 ∧ sg = outS Y ot f :: segsC) G Y := by
  refine x_ofL (by decide) (Nat.le_of_ble_eq_true rfl) (fun p e s m args below meth c A ls Q M hK hZ hN hw hl htab hret => ?_)
  obtain ⟨hx, hb, -⟩ := id M
  have hl : lv_has ls 5 [(0, .ref xo), (1, .int c1), (2, .int c2), (3, .ref ot)] := hl
  refine lv_aload_n hx hb dL_bidder_0 rfl (lv_at hl 3 rfl) ?_
  refine lv_iconst (v := nI 0) hx hb dL_bidder_1 (by decide) ?_
  refine lv_aload_n hx hb dL_bidder_2 rfl (lv_at hl 0 rfl) ?_
  refine lv_iload_n hx hb dL_bidder_3 rfl (lv_at hl 1 rfl) ?_
  refine lv_iload_n hx hb dL_bidder_4 rfl (lv_at hl 2 rfl) ?_
  refine x_catchV (As := [.int c1, .int c2]) (ri := 1) (rj := 0) (pre := []) (xh := { startPc := 0, endPc := 10, handlerPc := 13, catchType := 28 }) (suf := [{ startPc := 0, endPc := 10, handlerPc := 17, catchType := 13 }]) hC cw_L_30 (tailI segsC.length) M hK hZ hw hl.1 tailI_get tailI_nd hs0 rfl rfl ⟨Nat.le_refl _, Nat.le_refl _⟩ ⟨Nat.le_refl _, Nat.le_refl _⟩ rfl rfl (Nat.le_of_ble_eq_true rfl) dL_bidder_5 (htab.trans rfl) (fun z hz => nomatch hz) (by decide) (by decide) mw_655 (cast_self (M.2.2.2.2 _ mw_666)) (fun q H locs hw => ?_)
  refine lv_astore (lv' := [(4, .ref q), (0, .ref xo), (1, .int c1), (2, .int c2), (3, .ref ot)]) hx hb dL_bidder_13 hl (by decide) rfl (fun ls hl => ?_)
  refine lv_iconst (v := nI 1) hx hb dL_bidder_15 (by decide) ?_
  exact hret _ _ _ (nI 1) _ _ 1 6 (by decide) (by decide) dL_bidder_16 hw rfl ⟨rfl, rfl⟩
set_option maxHeartbeats 1000000 in
theorem lt_bidder_2 (l : Launch) (G : va_G) (Y : Nat → Nat) (xo ot : Nat) (c1 : Int32) (c2 : Int32) (f : Nat → Int64) (fs : List Value) (segsC : List va_W) {fr lo : Nat} (hC : CtT l yX5_bidder cX5_bidder 3 (some .int) fr lo [.ref xo, .int c1, .int c2] segsC eIAE G Y) (hs0 : segsC[0]? = some [(xo, .inr (4, fs))]) : CtL l yL_bidder cL_bidder 5 [(0, 10, 13, 28), (0, 10, 17, 13)] (fr + 1) (8 + (3 + 11) + lo) [.ref xo, .int c1, .int c2, .ref ot] (outS Y ot f :: segsC) (fun k sg => k = nI 2 ∧ sg = outS Y ot f :: segsC) G Y := by
  refine x_ofL (by decide) (Nat.le_of_ble_eq_true rfl) (fun p e s m args below meth c A ls Q M hK hZ hN hw hl htab hret => ?_)
  obtain ⟨hx, hb, -⟩ := id M
  have hl : lv_has ls 5 [(0, .ref xo), (1, .int c1), (2, .int c2), (3, .ref ot)] := hl
  refine lv_aload_n hx hb dL_bidder_0 rfl (lv_at hl 3 rfl) ?_
  refine lv_iconst (v := nI 0) hx hb dL_bidder_1 (by decide) ?_
  refine lv_aload_n hx hb dL_bidder_2 rfl (lv_at hl 0 rfl) ?_
  refine lv_iload_n hx hb dL_bidder_3 rfl (lv_at hl 1 rfl) ?_
  refine lv_iload_n hx hb dL_bidder_4 rfl (lv_at hl 2 rfl) ?_
  refine x_catchV (As := [.int c1, .int c2]) (ri := 1) (rj := 0) (pre := [{ startPc := 0, endPc := 10, handlerPc := 13, catchType := 28 }]) (xh := { startPc := 0, endPc := 10, handlerPc := 17, catchType := 13 }) (suf := []) hC cw_L_30 (tailI segsC.length) M hK hZ hw hl.1 tailI_get tailI_nd hs0 rfl rfl ⟨Nat.le_refl _, Nat.le_refl _⟩ ⟨Nat.le_refl _, Nat.le_refl _⟩ rfl rfl (Nat.le_of_ble_eq_true rfl) dL_bidder_5 (htab.trans rfl) (fun z hz => by obtain rfl := List.mem_singleton.mp hz; exact Or.inr ⟨by decide, _, mw_655, hN.1⟩) (by decide) (by decide) mw_441 (cast_self (M.2.2.2.2 _ mw_451)) (fun q H locs hw => ?_)
  refine lv_astore (lv' := [(4, .ref q), (0, .ref xo), (1, .int c1), (2, .int c2), (3, .ref ot)]) hx hb dL_bidder_17 hl (by decide) rfl (fun ls hl => ?_)
  refine lv_iconst (v := nI 2) hx hb dL_bidder_19 (by decide) ?_
  exact hret _ _ _ (nI 2) _ _ 1 6 (by decide) (by decide) dL_bidder_20 hw rfl ⟨rfl, rfl⟩
set_option maxHeartbeats 1000000 in
theorem lk_demand (l : Launch) (G : va_G) (Y : Nat → Nat) (xo ot : Nat) (c1 : Int32) (c2 : Int32) (f : Nat → Int64) (fs : List Value) (segsC : List va_W) {post : Int32 → List va_W → Prop} {fr lo : Nat} (hC : CtI l yX5_demand cX5_demand 3 .int fr lo [.ref xo, .int c1, .int c2] segsC post G Y) (hs0 : segsC[0]? = some [(xo, .inr (4, fs))]) : CtL l yL_demand cL_demand 5 [(0, 10, 13, 28)] (fr + 1) (8 + (3 + 11) + lo) [.ref xo, .int c1, .int c2, .ref ot] (outS Y ot f :: segsC) (fun k sg => k = nI 0 ∧ ∃ r sg1, post r sg1 ∧ sg = outS Y ot (vp_updL f 0 r.toInt64) :: sg1) G Y := by
  refine x_ofL (by decide) (Nat.le_of_ble_eq_true rfl) (fun p e s m args below meth c A ls Q M hK hZ hN hw hl htab hret => ?_)
  obtain ⟨hx, hb, -⟩ := id M
  have hl : lv_has ls 5 [(0, .ref xo), (1, .int c1), (2, .int c2), (3, .ref ot)] := hl
  refine lv_aload_n hx hb dL_demand_0 rfl (lv_at hl 3 rfl) ?_
  refine lv_iconst (v := nI 0) hx hb dL_demand_1 (by decide) ?_
  refine lv_aload_n hx hb dL_demand_2 rfl (lv_at hl 0 rfl) ?_
  refine lv_iload_n hx hb dL_demand_3 rfl (lv_at hl 1 rfl) ?_
  refine lv_iload_n hx hb dL_demand_4 rfl (lv_at hl 2 rfl) ?_
  refine x_cVI2 (As := [.int c1, .int c2]) hC cw_L_33 (tailI segsC.length) 1 0 M hK hZ hw hl.1 tailI_get tailI_nd hs0 rfl rfl ⟨Nat.le_refl _, Nat.le_refl _⟩ ⟨Nat.zero_le _, Nat.zero_le _⟩ rfl rfl (Nat.le_of_ble_eq_true rfl) dL_demand_5 (fun r sg hp ha H locs hw => ?_)
  rw [xPut_tail ha] at hw
  refine lv_i2l (v := r.toInt64) hx hb dL_demand_8 rfl ?_
  refine x_last M hK hw 0 0 rfl rfl (by decide) (by decide) dL_demand_9 (fun H locs hw => ?_)
  refine lv_goto (tgt := 17) hx hb dL_demand_10 (by decide) ?_
  refine lv_iconst (v := nI 0) hx hb dL_demand_17 (by decide) ?_
  exact hret _ _ _ (nI 0) _ _ 0 0 (by decide) (by decide) dL_demand_18 hw (by show _ :: sg.map ads = _ :: segsC.map ads; rw [ha]; rfl) ⟨rfl, r, sg, hp, rfl⟩
set_option maxHeartbeats 1000000 in
theorem lt_demand_1 (l : Launch) (G : va_G) (Y : Nat → Nat) (xo ot : Nat) (c1 : Int32) (c2 : Int32) (f : Nat → Int64) (fs : List Value) (segsC : List va_W) {fr lo : Nat} (hC : CtT l yX5_demand cX5_demand 3 (some .int) fr lo [.ref xo, .int c1, .int c2] segsC eIOB G Y) (hs0 : segsC[0]? = some [(xo, .inr (4, fs))]) : CtL l yL_demand cL_demand 5 [(0, 10, 13, 28)] (fr + 1) (8 + (3 + 11) + lo) [.ref xo, .int c1, .int c2, .ref ot] (outS Y ot f :: segsC) (fun k sg => k = nI 1 ∧ sg = outS Y ot f :: segsC) G Y := by
  refine x_ofL (by decide) (Nat.le_of_ble_eq_true rfl) (fun p e s m args below meth c A ls Q M hK hZ hN hw hl htab hret => ?_)
  obtain ⟨hx, hb, -⟩ := id M
  have hl : lv_has ls 5 [(0, .ref xo), (1, .int c1), (2, .int c2), (3, .ref ot)] := hl
  refine lv_aload_n hx hb dL_demand_0 rfl (lv_at hl 3 rfl) ?_
  refine lv_iconst (v := nI 0) hx hb dL_demand_1 (by decide) ?_
  refine lv_aload_n hx hb dL_demand_2 rfl (lv_at hl 0 rfl) ?_
  refine lv_iload_n hx hb dL_demand_3 rfl (lv_at hl 1 rfl) ?_
  refine lv_iload_n hx hb dL_demand_4 rfl (lv_at hl 2 rfl) ?_
  refine x_catchV (As := [.int c1, .int c2]) (ri := 1) (rj := 0) (pre := []) (xh := { startPc := 0, endPc := 10, handlerPc := 13, catchType := 28 }) (suf := []) hC cw_L_33 (tailI segsC.length) M hK hZ hw hl.1 tailI_get tailI_nd hs0 rfl rfl ⟨Nat.le_refl _, Nat.le_refl _⟩ ⟨Nat.le_refl _, Nat.le_refl _⟩ rfl rfl (Nat.le_of_ble_eq_true rfl) dL_demand_5 (htab.trans rfl) (fun z hz => nomatch hz) (by decide) (by decide) mw_655 (cast_self (M.2.2.2.2 _ mw_666)) (fun q H locs hw => ?_)
  refine lv_astore (lv' := [(4, .ref q), (0, .ref xo), (1, .int c1), (2, .int c2), (3, .ref ot)]) hx hb dL_demand_13 hl (by decide) rfl (fun ls hl => ?_)
  refine lv_iconst (v := nI 1) hx hb dL_demand_15 (by decide) ?_
  exact hret _ _ _ (nI 1) _ _ 1 6 (by decide) (by decide) dL_demand_16 hw rfl ⟨rfl, rfl⟩
set_option maxHeartbeats 1000000 in
theorem lk_pack (l : Launch) (G : va_G) (Y : Nat → Nat) (xo ot : Nat) (c1 : Int32) (c2 : Int32) (c3 : Int32) (f : Nat → Int64) (fs : List Value) (segsC : List va_W) {post : Int32 → List va_W → Prop} {fr lo : Nat} (hC : CtI l yX5_pack cX5_pack 4 .int fr lo [.ref xo, .int c1, .int c2, .int c3] segsC post G Y) (hs0 : segsC[0]? = some [(xo, .inr (4, fs))]) : CtL l yL_pack cL_pack 6 [(0, 12, 15, 28), (0, 12, 19, 13)] (fr + 1) (8 + (4 + 11) + lo) [.ref xo, .int c1, .int c2, .int c3, .ref ot] (outS Y ot f :: segsC) (fun k sg => k = nI 0 ∧ ∃ r sg1, post r sg1 ∧ sg = outS Y ot (vp_updL f 0 r.toInt64) :: sg1) G Y := by
  refine x_ofL (by decide) (Nat.le_of_ble_eq_true rfl) (fun p e s m args below meth c A ls Q M hK hZ hN hw hl htab hret => ?_)
  obtain ⟨hx, hb, -⟩ := id M
  have hl : lv_has ls 6 [(0, .ref xo), (1, .int c1), (2, .int c2), (3, .int c3), (4, .ref ot)] := hl
  refine lv_aload hx hb dL_pack_0 (lv_at hl 4 rfl) ?_
  refine lv_iconst (v := nI 0) hx hb dL_pack_2 (by decide) ?_
  refine lv_aload_n hx hb dL_pack_3 rfl (lv_at hl 0 rfl) ?_
  refine lv_iload_n hx hb dL_pack_4 rfl (lv_at hl 1 rfl) ?_
  refine lv_iload_n hx hb dL_pack_5 rfl (lv_at hl 2 rfl) ?_
  refine lv_iload_n hx hb dL_pack_6 rfl (lv_at hl 3 rfl) ?_
  refine x_cVI2 (As := [.int c1, .int c2, .int c3]) hC cw_L_36 (tailI segsC.length) 1 0 M hK hZ hw hl.1 tailI_get tailI_nd hs0 rfl rfl ⟨Nat.le_refl _, Nat.le_refl _⟩ ⟨Nat.zero_le _, Nat.zero_le _⟩ rfl rfl (Nat.le_of_ble_eq_true rfl) dL_pack_7 (fun r sg hp ha H locs hw => ?_)
  rw [xPut_tail ha] at hw
  refine lv_i2l (v := r.toInt64) hx hb dL_pack_10 rfl ?_
  refine x_last M hK hw 0 0 rfl rfl (by decide) (by decide) dL_pack_11 (fun H locs hw => ?_)
  refine lv_goto (tgt := 23) hx hb dL_pack_12 (by decide) ?_
  refine lv_iconst (v := nI 0) hx hb dL_pack_23 (by decide) ?_
  exact hret _ _ _ (nI 0) _ _ 0 0 (by decide) (by decide) dL_pack_24 hw (by show _ :: sg.map ads = _ :: segsC.map ads; rw [ha]; rfl) ⟨rfl, r, sg, hp, rfl⟩
set_option maxHeartbeats 1000000 in
theorem lt_pack_1 (l : Launch) (G : va_G) (Y : Nat → Nat) (xo ot : Nat) (c1 : Int32) (c2 : Int32) (c3 : Int32) (f : Nat → Int64) (fs : List Value) (segsC : List va_W) {fr lo : Nat} (hC : CtT l yX5_pack cX5_pack 4 (some .int) fr lo [.ref xo, .int c1, .int c2, .int c3] segsC eIOB G Y) (hs0 : segsC[0]? = some [(xo, .inr (4, fs))]) : CtL l yL_pack cL_pack 6 [(0, 12, 15, 28), (0, 12, 19, 13)] (fr + 1) (8 + (4 + 11) + lo) [.ref xo, .int c1, .int c2, .int c3, .ref ot] (outS Y ot f :: segsC) (fun k sg => k = nI 1 ∧ sg = outS Y ot f :: segsC) G Y := by
  refine x_ofL (by decide) (Nat.le_of_ble_eq_true rfl) (fun p e s m args below meth c A ls Q M hK hZ hN hw hl htab hret => ?_)
  obtain ⟨hx, hb, -⟩ := id M
  have hl : lv_has ls 6 [(0, .ref xo), (1, .int c1), (2, .int c2), (3, .int c3), (4, .ref ot)] := hl
  refine lv_aload hx hb dL_pack_0 (lv_at hl 4 rfl) ?_
  refine lv_iconst (v := nI 0) hx hb dL_pack_2 (by decide) ?_
  refine lv_aload_n hx hb dL_pack_3 rfl (lv_at hl 0 rfl) ?_
  refine lv_iload_n hx hb dL_pack_4 rfl (lv_at hl 1 rfl) ?_
  refine lv_iload_n hx hb dL_pack_5 rfl (lv_at hl 2 rfl) ?_
  refine lv_iload_n hx hb dL_pack_6 rfl (lv_at hl 3 rfl) ?_
  refine x_catchV (As := [.int c1, .int c2, .int c3]) (ri := 1) (rj := 0) (pre := []) (xh := { startPc := 0, endPc := 12, handlerPc := 15, catchType := 28 }) (suf := [{ startPc := 0, endPc := 12, handlerPc := 19, catchType := 13 }]) hC cw_L_36 (tailI segsC.length) M hK hZ hw hl.1 tailI_get tailI_nd hs0 rfl rfl ⟨Nat.le_refl _, Nat.le_refl _⟩ ⟨Nat.le_refl _, Nat.le_refl _⟩ rfl rfl (Nat.le_of_ble_eq_true rfl) dL_pack_7 (htab.trans rfl) (fun z hz => nomatch hz) (by decide) (by decide) mw_655 (cast_self (M.2.2.2.2 _ mw_666)) (fun q H locs hw => ?_)
  refine lv_astore (lv' := [(5, .ref q), (0, .ref xo), (1, .int c1), (2, .int c2), (3, .int c3), (4, .ref ot)]) hx hb dL_pack_15 hl (by decide) rfl (fun ls hl => ?_)
  refine lv_iconst (v := nI 1) hx hb dL_pack_17 (by decide) ?_
  exact hret _ _ _ (nI 1) _ _ 1 6 (by decide) (by decide) dL_pack_18 hw rfl ⟨rfl, rfl⟩
set_option maxHeartbeats 1000000 in
theorem lt_pack_2 (l : Launch) (G : va_G) (Y : Nat → Nat) (xo ot : Nat) (c1 : Int32) (c2 : Int32) (c3 : Int32) (f : Nat → Int64) (fs : List Value) (segsC : List va_W) {fr lo : Nat} (hC : CtT l yX5_pack cX5_pack 4 (some .int) fr lo [.ref xo, .int c1, .int c2, .int c3] segsC eIAE G Y) (hs0 : segsC[0]? = some [(xo, .inr (4, fs))]) : CtL l yL_pack cL_pack 6 [(0, 12, 15, 28), (0, 12, 19, 13)] (fr + 1) (8 + (4 + 11) + lo) [.ref xo, .int c1, .int c2, .int c3, .ref ot] (outS Y ot f :: segsC) (fun k sg => k = nI 2 ∧ sg = outS Y ot f :: segsC) G Y := by
  refine x_ofL (by decide) (Nat.le_of_ble_eq_true rfl) (fun p e s m args below meth c A ls Q M hK hZ hN hw hl htab hret => ?_)
  obtain ⟨hx, hb, -⟩ := id M
  have hl : lv_has ls 6 [(0, .ref xo), (1, .int c1), (2, .int c2), (3, .int c3), (4, .ref ot)] := hl
  refine lv_aload hx hb dL_pack_0 (lv_at hl 4 rfl) ?_
  refine lv_iconst (v := nI 0) hx hb dL_pack_2 (by decide) ?_
  refine lv_aload_n hx hb dL_pack_3 rfl (lv_at hl 0 rfl) ?_
  refine lv_iload_n hx hb dL_pack_4 rfl (lv_at hl 1 rfl) ?_
  refine lv_iload_n hx hb dL_pack_5 rfl (lv_at hl 2 rfl) ?_
  refine lv_iload_n hx hb dL_pack_6 rfl (lv_at hl 3 rfl) ?_
  refine x_catchV (As := [.int c1, .int c2, .int c3]) (ri := 1) (rj := 0) (pre := [{ startPc := 0, endPc := 12, handlerPc := 15, catchType := 28 }]) (xh := { startPc := 0, endPc := 12, handlerPc := 19, catchType := 13 }) (suf := []) hC cw_L_36 (tailI segsC.length) M hK hZ hw hl.1 tailI_get tailI_nd hs0 rfl rfl ⟨Nat.le_refl _, Nat.le_refl _⟩ ⟨Nat.le_refl _, Nat.le_refl _⟩ rfl rfl (Nat.le_of_ble_eq_true rfl) dL_pack_7 (htab.trans rfl) (fun z hz => by obtain rfl := List.mem_singleton.mp hz; exact Or.inr ⟨by decide, _, mw_655, hN.1⟩) (by decide) (by decide) mw_441 (cast_self (M.2.2.2.2 _ mw_451)) (fun q H locs hw => ?_)
  refine lv_astore (lv' := [(5, .ref q), (0, .ref xo), (1, .int c1), (2, .int c2), (3, .int c3), (4, .ref ot)]) hx hb dL_pack_19 hl (by decide) rfl (fun ls hl => ?_)
  refine lv_iconst (v := nI 2) hx hb dL_pack_21 (by decide) ?_
  exact hret _ _ _ (nI 2) _ _ 1 6 (by decide) (by decide) dL_pack_22 hw rfl ⟨rfl, rfl⟩
set_option maxHeartbeats 1000000 in
theorem lk_setting (l : Launch) (G : va_G) (Y : Nat → Nat) (xo ot : Nat) (c1 : Int32) (f : Nat → Int64) (fs : List Value) (segsC : List va_W) {post : Int32 → List va_W → Prop} {fr lo : Nat} (hC : CtI l yX5_setting cX5_setting 2 .int fr lo [.ref xo, .int c1] segsC post G Y) (hs0 : segsC[0]? = some [(xo, .inr (4, fs))]) : CtL l yL_setting cL_setting 4 [(0, 9, 12, 13)] (fr + 1) (8 + (2 + 11) + lo) [.ref xo, .int c1, .ref ot] (outS Y ot f :: segsC) (fun k sg => k = nI 0 ∧ ∃ r sg1, post r sg1 ∧ sg = outS Y ot (vp_updL f 0 r.toInt64) :: sg1) G Y := by
  refine x_ofL (by decide) (Nat.le_of_ble_eq_true rfl) (fun p e s m args below meth c A ls Q M hK hZ hN hw hl htab hret => ?_)
  obtain ⟨hx, hb, -⟩ := id M
  have hl : lv_has ls 4 [(0, .ref xo), (1, .int c1), (2, .ref ot)] := hl
  refine lv_aload_n hx hb dL_setting_0 rfl (lv_at hl 2 rfl) ?_
  refine lv_iconst (v := nI 0) hx hb dL_setting_1 (by decide) ?_
  refine lv_aload_n hx hb dL_setting_2 rfl (lv_at hl 0 rfl) ?_
  refine lv_iload_n hx hb dL_setting_3 rfl (lv_at hl 1 rfl) ?_
  refine x_cVI2 (As := [.int c1]) hC cw_L_40 (tailI segsC.length) 1 0 M hK hZ hw hl.1 tailI_get tailI_nd hs0 rfl rfl ⟨Nat.le_refl _, Nat.le_refl _⟩ ⟨Nat.zero_le _, Nat.zero_le _⟩ rfl rfl (Nat.le_of_ble_eq_true rfl) dL_setting_4 (fun r sg hp ha H locs hw => ?_)
  rw [xPut_tail ha] at hw
  refine lv_i2l (v := r.toInt64) hx hb dL_setting_7 rfl ?_
  refine x_last M hK hw 0 0 rfl rfl (by decide) (by decide) dL_setting_8 (fun H locs hw => ?_)
  refine lv_goto (tgt := 15) hx hb dL_setting_9 (by decide) ?_
  refine lv_iconst (v := nI 0) hx hb dL_setting_15 (by decide) ?_
  exact hret _ _ _ (nI 0) _ _ 0 0 (by decide) (by decide) dL_setting_16 hw (by show _ :: sg.map ads = _ :: segsC.map ads; rw [ha]; rfl) ⟨rfl, r, sg, hp, rfl⟩
set_option maxHeartbeats 1000000 in
theorem lt_setting_1 (l : Launch) (G : va_G) (Y : Nat → Nat) (xo ot : Nat) (c1 : Int32) (f : Nat → Int64) (fs : List Value) (segsC : List va_W) {fr lo : Nat} (hC : CtT l yX5_setting cX5_setting 2 (some .int) fr lo [.ref xo, .int c1] segsC eIAE G Y) (hs0 : segsC[0]? = some [(xo, .inr (4, fs))]) : CtL l yL_setting cL_setting 4 [(0, 9, 12, 13)] (fr + 1) (8 + (2 + 11) + lo) [.ref xo, .int c1, .ref ot] (outS Y ot f :: segsC) (fun k sg => k = nI 1 ∧ sg = outS Y ot f :: segsC) G Y := by
  refine x_ofL (by decide) (Nat.le_of_ble_eq_true rfl) (fun p e s m args below meth c A ls Q M hK hZ hN hw hl htab hret => ?_)
  obtain ⟨hx, hb, -⟩ := id M
  have hl : lv_has ls 4 [(0, .ref xo), (1, .int c1), (2, .ref ot)] := hl
  refine lv_aload_n hx hb dL_setting_0 rfl (lv_at hl 2 rfl) ?_
  refine lv_iconst (v := nI 0) hx hb dL_setting_1 (by decide) ?_
  refine lv_aload_n hx hb dL_setting_2 rfl (lv_at hl 0 rfl) ?_
  refine lv_iload_n hx hb dL_setting_3 rfl (lv_at hl 1 rfl) ?_
  refine x_catchV (As := [.int c1]) (ri := 1) (rj := 0) (pre := []) (xh := { startPc := 0, endPc := 9, handlerPc := 12, catchType := 13 }) (suf := []) hC cw_L_40 (tailI segsC.length) M hK hZ hw hl.1 tailI_get tailI_nd hs0 rfl rfl ⟨Nat.le_refl _, Nat.le_refl _⟩ ⟨Nat.le_refl _, Nat.le_refl _⟩ rfl rfl (Nat.le_of_ble_eq_true rfl) dL_setting_4 (htab.trans rfl) (fun z hz => nomatch hz) (by decide) (by decide) mw_441 (cast_self (M.2.2.2.2 _ mw_451)) (fun q H locs hw => ?_)
  refine lv_astore_n (lv' := [(3, .ref q), (0, .ref xo), (1, .int c1), (2, .ref ot)]) hx hb dL_setting_12 rfl hl (by decide) rfl (fun ls hl => ?_)
  refine lv_iconst (v := nI 1) hx hb dL_setting_13 (by decide) ?_
  exact hret _ _ _ (nI 1) _ _ 1 6 (by decide) (by decide) dL_setting_14 hw rfl ⟨rfl, rfl⟩
set_option maxHeartbeats 1000000 in
theorem lk_offer (l : Launch) (G : va_G) (Y : Nat → Nat) (xo ot : Nat) (c1 : Int32) (c2 : Int32) (c3 : Int32) (f : Nat → Int64) (fs : List Value) (segsC : List va_W) {post : Int32 → List va_W → Prop} {fr lo : Nat} (hC : CtI l yX5_offer cX5_offer 5 .int fr lo [.ref xo, .int c1, .int c2, .int c3] segsC post G Y) (hs0 : segsC[0]? = some [(xo, .inr (4, fs))]) : CtL l yL_offer cL_offer 6 [(0, 12, 15, 28), (0, 12, 19, 13), (0, 12, 23, 15)] (fr + 1) (8 + (5 + 11) + lo) [.ref xo, .int c1, .int c2, .int c3, .ref ot] (outS Y ot f :: segsC) (fun k sg => k = nI 0 ∧ ∃ r sg1, post r sg1 ∧ sg = outS Y ot (vp_updL f 0 r.toInt64) :: sg1) G Y := by
  refine x_ofL (by decide) (Nat.le_of_ble_eq_true rfl) (fun p e s m args below meth c A ls Q M hK hZ hN hw hl htab hret => ?_)
  obtain ⟨hx, hb, -⟩ := id M
  have hl : lv_has ls 6 [(0, .ref xo), (1, .int c1), (2, .int c2), (3, .int c3), (4, .ref ot)] := hl
  refine lv_aload hx hb dL_offer_0 (lv_at hl 4 rfl) ?_
  refine lv_iconst (v := nI 0) hx hb dL_offer_2 (by decide) ?_
  refine lv_aload_n hx hb dL_offer_3 rfl (lv_at hl 0 rfl) ?_
  refine lv_iload_n hx hb dL_offer_4 rfl (lv_at hl 1 rfl) ?_
  refine lv_iload_n hx hb dL_offer_5 rfl (lv_at hl 2 rfl) ?_
  refine lv_iload_n hx hb dL_offer_6 rfl (lv_at hl 3 rfl) ?_
  refine x_cVI2 (As := [.int c1, .int c2, .int c3]) hC cw_L_43 (tailI segsC.length) 1 0 M hK hZ hw hl.1 tailI_get tailI_nd hs0 rfl rfl ⟨Nat.le_refl _, Nat.le_refl _⟩ ⟨Nat.zero_le _, Nat.zero_le _⟩ rfl rfl (Nat.le_of_ble_eq_true rfl) dL_offer_7 (fun r sg hp ha H locs hw => ?_)
  rw [xPut_tail ha] at hw
  refine lv_i2l (v := r.toInt64) hx hb dL_offer_10 rfl ?_
  refine x_last M hK hw 0 0 rfl rfl (by decide) (by decide) dL_offer_11 (fun H locs hw => ?_)
  refine lv_goto (tgt := 27) hx hb dL_offer_12 (by decide) ?_
  refine lv_iconst (v := nI 0) hx hb dL_offer_27 (by decide) ?_
  exact hret _ _ _ (nI 0) _ _ 0 0 (by decide) (by decide) dL_offer_28 hw (by show _ :: sg.map ads = _ :: segsC.map ads; rw [ha]; rfl) ⟨rfl, r, sg, hp, rfl⟩
set_option maxHeartbeats 1000000 in
theorem lt_offer_1 (l : Launch) (G : va_G) (Y : Nat → Nat) (xo ot : Nat) (c1 : Int32) (c2 : Int32) (c3 : Int32) (f : Nat → Int64) (fs : List Value) (segsC : List va_W) {fr lo : Nat} (hC : CtT l yX5_offer cX5_offer 5 (some .int) fr lo [.ref xo, .int c1, .int c2, .int c3] segsC eIOB G Y) (hs0 : segsC[0]? = some [(xo, .inr (4, fs))]) : CtL l yL_offer cL_offer 6 [(0, 12, 15, 28), (0, 12, 19, 13), (0, 12, 23, 15)] (fr + 1) (8 + (5 + 11) + lo) [.ref xo, .int c1, .int c2, .int c3, .ref ot] (outS Y ot f :: segsC) (fun k sg => k = nI 1 ∧ sg = outS Y ot f :: segsC) G Y := by
  refine x_ofL (by decide) (Nat.le_of_ble_eq_true rfl) (fun p e s m args below meth c A ls Q M hK hZ hN hw hl htab hret => ?_)
  obtain ⟨hx, hb, -⟩ := id M
  have hl : lv_has ls 6 [(0, .ref xo), (1, .int c1), (2, .int c2), (3, .int c3), (4, .ref ot)] := hl
  refine lv_aload hx hb dL_offer_0 (lv_at hl 4 rfl) ?_
  refine lv_iconst (v := nI 0) hx hb dL_offer_2 (by decide) ?_
  refine lv_aload_n hx hb dL_offer_3 rfl (lv_at hl 0 rfl) ?_
  refine lv_iload_n hx hb dL_offer_4 rfl (lv_at hl 1 rfl) ?_
  refine lv_iload_n hx hb dL_offer_5 rfl (lv_at hl 2 rfl) ?_
  refine lv_iload_n hx hb dL_offer_6 rfl (lv_at hl 3 rfl) ?_
  refine x_catchV (As := [.int c1, .int c2, .int c3]) (ri := 1) (rj := 0) (pre := []) (xh := { startPc := 0, endPc := 12, handlerPc := 15, catchType := 28 }) (suf := [{ startPc := 0, endPc := 12, handlerPc := 19, catchType := 13 }, { startPc := 0, endPc := 12, handlerPc := 23, catchType := 15 }]) hC cw_L_43 (tailI segsC.length) M hK hZ hw hl.1 tailI_get tailI_nd hs0 rfl rfl ⟨Nat.le_refl _, Nat.le_refl _⟩ ⟨Nat.le_refl _, Nat.le_refl _⟩ rfl rfl (Nat.le_of_ble_eq_true rfl) dL_offer_7 (htab.trans rfl) (fun z hz => nomatch hz) (by decide) (by decide) mw_655 (cast_self (M.2.2.2.2 _ mw_666)) (fun q H locs hw => ?_)
  refine lv_astore (lv' := [(5, .ref q), (0, .ref xo), (1, .int c1), (2, .int c2), (3, .int c3), (4, .ref ot)]) hx hb dL_offer_15 hl (by decide) rfl (fun ls hl => ?_)
  refine lv_iconst (v := nI 1) hx hb dL_offer_17 (by decide) ?_
  exact hret _ _ _ (nI 1) _ _ 1 6 (by decide) (by decide) dL_offer_18 hw rfl ⟨rfl, rfl⟩
set_option maxHeartbeats 1000000 in
theorem lt_offer_2 (l : Launch) (G : va_G) (Y : Nat → Nat) (xo ot : Nat) (c1 : Int32) (c2 : Int32) (c3 : Int32) (f : Nat → Int64) (fs : List Value) (segsC : List va_W) {fr lo : Nat} (hC : CtT l yX5_offer cX5_offer 5 (some .int) fr lo [.ref xo, .int c1, .int c2, .int c3] segsC eIAE G Y) (hs0 : segsC[0]? = some [(xo, .inr (4, fs))]) : CtL l yL_offer cL_offer 6 [(0, 12, 15, 28), (0, 12, 19, 13), (0, 12, 23, 15)] (fr + 1) (8 + (5 + 11) + lo) [.ref xo, .int c1, .int c2, .int c3, .ref ot] (outS Y ot f :: segsC) (fun k sg => k = nI 2 ∧ sg = outS Y ot f :: segsC) G Y := by
  refine x_ofL (by decide) (Nat.le_of_ble_eq_true rfl) (fun p e s m args below meth c A ls Q M hK hZ hN hw hl htab hret => ?_)
  obtain ⟨hx, hb, -⟩ := id M
  have hl : lv_has ls 6 [(0, .ref xo), (1, .int c1), (2, .int c2), (3, .int c3), (4, .ref ot)] := hl
  refine lv_aload hx hb dL_offer_0 (lv_at hl 4 rfl) ?_
  refine lv_iconst (v := nI 0) hx hb dL_offer_2 (by decide) ?_
  refine lv_aload_n hx hb dL_offer_3 rfl (lv_at hl 0 rfl) ?_
  refine lv_iload_n hx hb dL_offer_4 rfl (lv_at hl 1 rfl) ?_
  refine lv_iload_n hx hb dL_offer_5 rfl (lv_at hl 2 rfl) ?_
  refine lv_iload_n hx hb dL_offer_6 rfl (lv_at hl 3 rfl) ?_
  refine x_catchV (As := [.int c1, .int c2, .int c3]) (ri := 1) (rj := 0) (pre := [{ startPc := 0, endPc := 12, handlerPc := 15, catchType := 28 }]) (xh := { startPc := 0, endPc := 12, handlerPc := 19, catchType := 13 }) (suf := [{ startPc := 0, endPc := 12, handlerPc := 23, catchType := 15 }]) hC cw_L_43 (tailI segsC.length) M hK hZ hw hl.1 tailI_get tailI_nd hs0 rfl rfl ⟨Nat.le_refl _, Nat.le_refl _⟩ ⟨Nat.le_refl _, Nat.le_refl _⟩ rfl rfl (Nat.le_of_ble_eq_true rfl) dL_offer_7 (htab.trans rfl) (fun z hz => by obtain rfl := List.mem_singleton.mp hz; exact Or.inr ⟨by decide, _, mw_655, hN.1⟩) (by decide) (by decide) mw_441 (cast_self (M.2.2.2.2 _ mw_451)) (fun q H locs hw => ?_)
  refine lv_astore (lv' := [(5, .ref q), (0, .ref xo), (1, .int c1), (2, .int c2), (3, .int c3), (4, .ref ot)]) hx hb dL_offer_19 hl (by decide) rfl (fun ls hl => ?_)
  refine lv_iconst (v := nI 2) hx hb dL_offer_21 (by decide) ?_
  exact hret _ _ _ (nI 2) _ _ 1 6 (by decide) (by decide) dL_offer_22 hw rfl ⟨rfl, rfl⟩
set_option maxHeartbeats 1000000 in
theorem lt_offer_3 (l : Launch) (G : va_G) (Y : Nat → Nat) (xo ot : Nat) (c1 : Int32) (c2 : Int32) (c3 : Int32) (f : Nat → Int64) (fs : List Value) (segsC : List va_W) {fr lo : Nat} (hC : CtT l yX5_offer cX5_offer 5 (some .int) fr lo [.ref xo, .int c1, .int c2, .int c3] segsC eISE G Y) (hs0 : segsC[0]? = some [(xo, .inr (4, fs))]) : CtL l yL_offer cL_offer 6 [(0, 12, 15, 28), (0, 12, 19, 13), (0, 12, 23, 15)] (fr + 1) (8 + (5 + 11) + lo) [.ref xo, .int c1, .int c2, .int c3, .ref ot] (outS Y ot f :: segsC) (fun k sg => k = nI 3 ∧ sg = outS Y ot f :: segsC) G Y := by
  refine x_ofL (by decide) (Nat.le_of_ble_eq_true rfl) (fun p e s m args below meth c A ls Q M hK hZ hN hw hl htab hret => ?_)
  obtain ⟨hx, hb, -⟩ := id M
  have hl : lv_has ls 6 [(0, .ref xo), (1, .int c1), (2, .int c2), (3, .int c3), (4, .ref ot)] := hl
  refine lv_aload hx hb dL_offer_0 (lv_at hl 4 rfl) ?_
  refine lv_iconst (v := nI 0) hx hb dL_offer_2 (by decide) ?_
  refine lv_aload_n hx hb dL_offer_3 rfl (lv_at hl 0 rfl) ?_
  refine lv_iload_n hx hb dL_offer_4 rfl (lv_at hl 1 rfl) ?_
  refine lv_iload_n hx hb dL_offer_5 rfl (lv_at hl 2 rfl) ?_
  refine lv_iload_n hx hb dL_offer_6 rfl (lv_at hl 3 rfl) ?_
  refine x_catchV (As := [.int c1, .int c2, .int c3]) (ri := 1) (rj := 0) (pre := [{ startPc := 0, endPc := 12, handlerPc := 15, catchType := 28 }, { startPc := 0, endPc := 12, handlerPc := 19, catchType := 13 }]) (xh := { startPc := 0, endPc := 12, handlerPc := 23, catchType := 15 }) (suf := []) hC cw_L_43 (tailI segsC.length) M hK hZ hw hl.1 tailI_get tailI_nd hs0 rfl rfl ⟨Nat.le_refl _, Nat.le_refl _⟩ ⟨Nat.le_refl _, Nat.le_refl _⟩ rfl rfl (Nat.le_of_ble_eq_true rfl) dL_offer_7 (htab.trans rfl) (fun z hz => by rcases List.mem_cons.mp hz with rfl | hz; exact Or.inr ⟨by decide, _, mw_655, hN.2.1⟩; obtain rfl := List.mem_singleton.mp hz; exact Or.inr ⟨by decide, _, mw_441, hN.2.2⟩) (by decide) (by decide) mw_442 (cast_self (M.2.2.2.2 _ mw_522)) (fun q H locs hw => ?_)
  refine lv_astore (lv' := [(5, .ref q), (0, .ref xo), (1, .int c1), (2, .int c2), (3, .int c3), (4, .ref ot)]) hx hb dL_offer_23 hl (by decide) rfl (fun ls hl => ?_)
  refine lv_iconst (v := nI 3) hx hb dL_offer_25 (by decide) ?_
  exact hret _ _ _ (nI 3) _ _ 1 6 (by decide) (by decide) dL_offer_26 hw rfl ⟨rfl, rfl⟩
set_option maxHeartbeats 1000000 in
theorem lk_price (l : Launch) (G : va_G) (Y : Nat → Nat) (xo ot : Nat) (c1 : Int32) (c2 : Int32) (f : Nat → Int64) (fs : List Value) (segsC : List va_W) {post : Int32 → List va_W → Prop} {fr lo : Nat} (hC : CtI l yX5_price cX5_price 4 .int fr lo [.ref xo, .int c1, .int c2] segsC post G Y) (hs0 : segsC[0]? = some [(xo, .inr (4, fs))]) : CtL l yL_price cL_price 5 [(0, 10, 13, 28), (0, 10, 17, 13), (0, 10, 21, 15)] (fr + 1) (8 + (4 + 11) + lo) [.ref xo, .int c1, .int c2, .ref ot] (outS Y ot f :: segsC) (fun k sg => k = nI 0 ∧ ∃ r sg1, post r sg1 ∧ sg = outS Y ot (vp_updL f 0 r.toInt64) :: sg1) G Y := by
  refine x_ofL (by decide) (Nat.le_of_ble_eq_true rfl) (fun p e s m args below meth c A ls Q M hK hZ hN hw hl htab hret => ?_)
  obtain ⟨hx, hb, -⟩ := id M
  have hl : lv_has ls 5 [(0, .ref xo), (1, .int c1), (2, .int c2), (3, .ref ot)] := hl
  refine lv_aload_n hx hb dL_price_0 rfl (lv_at hl 3 rfl) ?_
  refine lv_iconst (v := nI 0) hx hb dL_price_1 (by decide) ?_
  refine lv_aload_n hx hb dL_price_2 rfl (lv_at hl 0 rfl) ?_
  refine lv_iload_n hx hb dL_price_3 rfl (lv_at hl 1 rfl) ?_
  refine lv_iload_n hx hb dL_price_4 rfl (lv_at hl 2 rfl) ?_
  refine x_cVI2 (As := [.int c1, .int c2]) hC cw_L_46 (tailI segsC.length) 1 0 M hK hZ hw hl.1 tailI_get tailI_nd hs0 rfl rfl ⟨Nat.le_refl _, Nat.le_refl _⟩ ⟨Nat.zero_le _, Nat.zero_le _⟩ rfl rfl (Nat.le_of_ble_eq_true rfl) dL_price_5 (fun r sg hp ha H locs hw => ?_)
  rw [xPut_tail ha] at hw
  refine lv_i2l (v := r.toInt64) hx hb dL_price_8 rfl ?_
  refine x_last M hK hw 0 0 rfl rfl (by decide) (by decide) dL_price_9 (fun H locs hw => ?_)
  refine lv_goto (tgt := 25) hx hb dL_price_10 (by decide) ?_
  refine lv_iconst (v := nI 0) hx hb dL_price_25 (by decide) ?_
  exact hret _ _ _ (nI 0) _ _ 0 0 (by decide) (by decide) dL_price_26 hw (by show _ :: sg.map ads = _ :: segsC.map ads; rw [ha]; rfl) ⟨rfl, r, sg, hp, rfl⟩
set_option maxHeartbeats 1000000 in
theorem lt_price_1 (l : Launch) (G : va_G) (Y : Nat → Nat) (xo ot : Nat) (c1 : Int32) (c2 : Int32) (f : Nat → Int64) (fs : List Value) (segsC : List va_W) {fr lo : Nat} (hC : CtT l yX5_price cX5_price 4 (some .int) fr lo [.ref xo, .int c1, .int c2] segsC eIOB G Y) (hs0 : segsC[0]? = some [(xo, .inr (4, fs))]) : CtL l yL_price cL_price 5 [(0, 10, 13, 28), (0, 10, 17, 13), (0, 10, 21, 15)] (fr + 1) (8 + (4 + 11) + lo) [.ref xo, .int c1, .int c2, .ref ot] (outS Y ot f :: segsC) (fun k sg => k = nI 1 ∧ sg = outS Y ot f :: segsC) G Y := by
  refine x_ofL (by decide) (Nat.le_of_ble_eq_true rfl) (fun p e s m args below meth c A ls Q M hK hZ hN hw hl htab hret => ?_)
  obtain ⟨hx, hb, -⟩ := id M
  have hl : lv_has ls 5 [(0, .ref xo), (1, .int c1), (2, .int c2), (3, .ref ot)] := hl
  refine lv_aload_n hx hb dL_price_0 rfl (lv_at hl 3 rfl) ?_
  refine lv_iconst (v := nI 0) hx hb dL_price_1 (by decide) ?_
  refine lv_aload_n hx hb dL_price_2 rfl (lv_at hl 0 rfl) ?_
  refine lv_iload_n hx hb dL_price_3 rfl (lv_at hl 1 rfl) ?_
  refine lv_iload_n hx hb dL_price_4 rfl (lv_at hl 2 rfl) ?_
  refine x_catchV (As := [.int c1, .int c2]) (ri := 1) (rj := 0) (pre := []) (xh := { startPc := 0, endPc := 10, handlerPc := 13, catchType := 28 }) (suf := [{ startPc := 0, endPc := 10, handlerPc := 17, catchType := 13 }, { startPc := 0, endPc := 10, handlerPc := 21, catchType := 15 }]) hC cw_L_46 (tailI segsC.length) M hK hZ hw hl.1 tailI_get tailI_nd hs0 rfl rfl ⟨Nat.le_refl _, Nat.le_refl _⟩ ⟨Nat.le_refl _, Nat.le_refl _⟩ rfl rfl (Nat.le_of_ble_eq_true rfl) dL_price_5 (htab.trans rfl) (fun z hz => nomatch hz) (by decide) (by decide) mw_655 (cast_self (M.2.2.2.2 _ mw_666)) (fun q H locs hw => ?_)
  refine lv_astore (lv' := [(4, .ref q), (0, .ref xo), (1, .int c1), (2, .int c2), (3, .ref ot)]) hx hb dL_price_13 hl (by decide) rfl (fun ls hl => ?_)
  refine lv_iconst (v := nI 1) hx hb dL_price_15 (by decide) ?_
  exact hret _ _ _ (nI 1) _ _ 1 6 (by decide) (by decide) dL_price_16 hw rfl ⟨rfl, rfl⟩
set_option maxHeartbeats 1000000 in
theorem lt_price_2 (l : Launch) (G : va_G) (Y : Nat → Nat) (xo ot : Nat) (c1 : Int32) (c2 : Int32) (f : Nat → Int64) (fs : List Value) (segsC : List va_W) {fr lo : Nat} (hC : CtT l yX5_price cX5_price 4 (some .int) fr lo [.ref xo, .int c1, .int c2] segsC eIAE G Y) (hs0 : segsC[0]? = some [(xo, .inr (4, fs))]) : CtL l yL_price cL_price 5 [(0, 10, 13, 28), (0, 10, 17, 13), (0, 10, 21, 15)] (fr + 1) (8 + (4 + 11) + lo) [.ref xo, .int c1, .int c2, .ref ot] (outS Y ot f :: segsC) (fun k sg => k = nI 2 ∧ sg = outS Y ot f :: segsC) G Y := by
  refine x_ofL (by decide) (Nat.le_of_ble_eq_true rfl) (fun p e s m args below meth c A ls Q M hK hZ hN hw hl htab hret => ?_)
  obtain ⟨hx, hb, -⟩ := id M
  have hl : lv_has ls 5 [(0, .ref xo), (1, .int c1), (2, .int c2), (3, .ref ot)] := hl
  refine lv_aload_n hx hb dL_price_0 rfl (lv_at hl 3 rfl) ?_
  refine lv_iconst (v := nI 0) hx hb dL_price_1 (by decide) ?_
  refine lv_aload_n hx hb dL_price_2 rfl (lv_at hl 0 rfl) ?_
  refine lv_iload_n hx hb dL_price_3 rfl (lv_at hl 1 rfl) ?_
  refine lv_iload_n hx hb dL_price_4 rfl (lv_at hl 2 rfl) ?_
  refine x_catchV (As := [.int c1, .int c2]) (ri := 1) (rj := 0) (pre := [{ startPc := 0, endPc := 10, handlerPc := 13, catchType := 28 }]) (xh := { startPc := 0, endPc := 10, handlerPc := 17, catchType := 13 }) (suf := [{ startPc := 0, endPc := 10, handlerPc := 21, catchType := 15 }]) hC cw_L_46 (tailI segsC.length) M hK hZ hw hl.1 tailI_get tailI_nd hs0 rfl rfl ⟨Nat.le_refl _, Nat.le_refl _⟩ ⟨Nat.le_refl _, Nat.le_refl _⟩ rfl rfl (Nat.le_of_ble_eq_true rfl) dL_price_5 (htab.trans rfl) (fun z hz => by obtain rfl := List.mem_singleton.mp hz; exact Or.inr ⟨by decide, _, mw_655, hN.1⟩) (by decide) (by decide) mw_441 (cast_self (M.2.2.2.2 _ mw_451)) (fun q H locs hw => ?_)
  refine lv_astore (lv' := [(4, .ref q), (0, .ref xo), (1, .int c1), (2, .int c2), (3, .ref ot)]) hx hb dL_price_17 hl (by decide) rfl (fun ls hl => ?_)
  refine lv_iconst (v := nI 2) hx hb dL_price_19 (by decide) ?_
  exact hret _ _ _ (nI 2) _ _ 1 6 (by decide) (by decide) dL_price_20 hw rfl ⟨rfl, rfl⟩
set_option maxHeartbeats 1000000 in
theorem lt_price_3 (l : Launch) (G : va_G) (Y : Nat → Nat) (xo ot : Nat) (c1 : Int32) (c2 : Int32) (f : Nat → Int64) (fs : List Value) (segsC : List va_W) {fr lo : Nat} (hC : CtT l yX5_price cX5_price 4 (some .int) fr lo [.ref xo, .int c1, .int c2] segsC eISE G Y) (hs0 : segsC[0]? = some [(xo, .inr (4, fs))]) : CtL l yL_price cL_price 5 [(0, 10, 13, 28), (0, 10, 17, 13), (0, 10, 21, 15)] (fr + 1) (8 + (4 + 11) + lo) [.ref xo, .int c1, .int c2, .ref ot] (outS Y ot f :: segsC) (fun k sg => k = nI 3 ∧ sg = outS Y ot f :: segsC) G Y := by
  refine x_ofL (by decide) (Nat.le_of_ble_eq_true rfl) (fun p e s m args below meth c A ls Q M hK hZ hN hw hl htab hret => ?_)
  obtain ⟨hx, hb, -⟩ := id M
  have hl : lv_has ls 5 [(0, .ref xo), (1, .int c1), (2, .int c2), (3, .ref ot)] := hl
  refine lv_aload_n hx hb dL_price_0 rfl (lv_at hl 3 rfl) ?_
  refine lv_iconst (v := nI 0) hx hb dL_price_1 (by decide) ?_
  refine lv_aload_n hx hb dL_price_2 rfl (lv_at hl 0 rfl) ?_
  refine lv_iload_n hx hb dL_price_3 rfl (lv_at hl 1 rfl) ?_
  refine lv_iload_n hx hb dL_price_4 rfl (lv_at hl 2 rfl) ?_
  refine x_catchV (As := [.int c1, .int c2]) (ri := 1) (rj := 0) (pre := [{ startPc := 0, endPc := 10, handlerPc := 13, catchType := 28 }, { startPc := 0, endPc := 10, handlerPc := 17, catchType := 13 }]) (xh := { startPc := 0, endPc := 10, handlerPc := 21, catchType := 15 }) (suf := []) hC cw_L_46 (tailI segsC.length) M hK hZ hw hl.1 tailI_get tailI_nd hs0 rfl rfl ⟨Nat.le_refl _, Nat.le_refl _⟩ ⟨Nat.le_refl _, Nat.le_refl _⟩ rfl rfl (Nat.le_of_ble_eq_true rfl) dL_price_5 (htab.trans rfl) (fun z hz => by rcases List.mem_cons.mp hz with rfl | hz; exact Or.inr ⟨by decide, _, mw_655, hN.2.1⟩; obtain rfl := List.mem_singleton.mp hz; exact Or.inr ⟨by decide, _, mw_441, hN.2.2⟩) (by decide) (by decide) mw_442 (cast_self (M.2.2.2.2 _ mw_522)) (fun q H locs hw => ?_)
  refine lv_astore (lv' := [(4, .ref q), (0, .ref xo), (1, .int c1), (2, .int c2), (3, .ref ot)]) hx hb dL_price_21 hl (by decide) rfl (fun ls hl => ?_)
  refine lv_iconst (v := nI 3) hx hb dL_price_23 (by decide) ?_
  exact hret _ _ _ (nI 3) _ _ 1 6 (by decide) (by decide) dL_price_24 hw rfl ⟨rfl, rfl⟩
set_option maxHeartbeats 1000000 in
theorem lk_join (l : Launch) (G : va_G) (Y : Nat → Nat) (xo ot : Nat) (c1 : Int32) (c2 : Int32) (f : Nat → Int64) (fs : List Value) (segsC : List va_W) {post : Int32 → List va_W → Prop} {fr lo : Nat} (hC : CtI l yX5_join cX5_join 3 .int fr lo [.ref xo, .int c1, .int c2] segsC post G Y) (hs0 : segsC[0]? = some [(xo, .inr (4, fs))]) : CtL l yL_join cL_join 5 [(0, 10, 13, 13), (0, 10, 17, 15)] (fr + 1) (8 + (3 + 11) + lo) [.ref xo, .int c1, .int c2, .ref ot] (outS Y ot f :: segsC) (fun k sg => k = nI 0 ∧ ∃ r sg1, post r sg1 ∧ sg = outS Y ot (vp_updL f 0 r.toInt64) :: sg1) G Y := by
  refine x_ofL (by decide) (Nat.le_of_ble_eq_true rfl) (fun p e s m args below meth c A ls Q M hK hZ hN hw hl htab hret => ?_)
  obtain ⟨hx, hb, -⟩ := id M
  have hl : lv_has ls 5 [(0, .ref xo), (1, .int c1), (2, .int c2), (3, .ref ot)] := hl
  refine lv_aload_n hx hb dL_join_0 rfl (lv_at hl 3 rfl) ?_
  refine lv_iconst (v := nI 0) hx hb dL_join_1 (by decide) ?_
  refine lv_aload_n hx hb dL_join_2 rfl (lv_at hl 0 rfl) ?_
  refine lv_iload_n hx hb dL_join_3 rfl (lv_at hl 1 rfl) ?_
  refine lv_iload_n hx hb dL_join_4 rfl (lv_at hl 2 rfl) ?_
  refine x_cVI2 (As := [.int c1, .int c2]) hC cw_L_49 (tailI segsC.length) 1 0 M hK hZ hw hl.1 tailI_get tailI_nd hs0 rfl rfl ⟨Nat.le_refl _, Nat.le_refl _⟩ ⟨Nat.zero_le _, Nat.zero_le _⟩ rfl rfl (Nat.le_of_ble_eq_true rfl) dL_join_5 (fun r sg hp ha H locs hw => ?_)
  rw [xPut_tail ha] at hw
  refine lv_i2l (v := r.toInt64) hx hb dL_join_8 rfl ?_
  refine x_last M hK hw 0 0 rfl rfl (by decide) (by decide) dL_join_9 (fun H locs hw => ?_)
  refine lv_goto (tgt := 21) hx hb dL_join_10 (by decide) ?_
  refine lv_iconst (v := nI 0) hx hb dL_join_21 (by decide) ?_
  exact hret _ _ _ (nI 0) _ _ 0 0 (by decide) (by decide) dL_join_22 hw (by show _ :: sg.map ads = _ :: segsC.map ads; rw [ha]; rfl) ⟨rfl, r, sg, hp, rfl⟩
set_option maxHeartbeats 1000000 in
theorem lt_join_1 (l : Launch) (G : va_G) (Y : Nat → Nat) (xo ot : Nat) (c1 : Int32) (c2 : Int32) (f : Nat → Int64) (fs : List Value) (segsC : List va_W) {fr lo : Nat} (hC : CtT l yX5_join cX5_join 3 (some .int) fr lo [.ref xo, .int c1, .int c2] segsC eIAE G Y) (hs0 : segsC[0]? = some [(xo, .inr (4, fs))]) : CtL l yL_join cL_join 5 [(0, 10, 13, 13), (0, 10, 17, 15)] (fr + 1) (8 + (3 + 11) + lo) [.ref xo, .int c1, .int c2, .ref ot] (outS Y ot f :: segsC) (fun k sg => k = nI 1 ∧ sg = outS Y ot f :: segsC) G Y := by
  refine x_ofL (by decide) (Nat.le_of_ble_eq_true rfl) (fun p e s m args below meth c A ls Q M hK hZ hN hw hl htab hret => ?_)
  obtain ⟨hx, hb, -⟩ := id M
  have hl : lv_has ls 5 [(0, .ref xo), (1, .int c1), (2, .int c2), (3, .ref ot)] := hl
  refine lv_aload_n hx hb dL_join_0 rfl (lv_at hl 3 rfl) ?_
  refine lv_iconst (v := nI 0) hx hb dL_join_1 (by decide) ?_
  refine lv_aload_n hx hb dL_join_2 rfl (lv_at hl 0 rfl) ?_
  refine lv_iload_n hx hb dL_join_3 rfl (lv_at hl 1 rfl) ?_
  refine lv_iload_n hx hb dL_join_4 rfl (lv_at hl 2 rfl) ?_
  refine x_catchV (As := [.int c1, .int c2]) (ri := 1) (rj := 0) (pre := []) (xh := { startPc := 0, endPc := 10, handlerPc := 13, catchType := 13 }) (suf := [{ startPc := 0, endPc := 10, handlerPc := 17, catchType := 15 }]) hC cw_L_49 (tailI segsC.length) M hK hZ hw hl.1 tailI_get tailI_nd hs0 rfl rfl ⟨Nat.le_refl _, Nat.le_refl _⟩ ⟨Nat.le_refl _, Nat.le_refl _⟩ rfl rfl (Nat.le_of_ble_eq_true rfl) dL_join_5 (htab.trans rfl) (fun z hz => nomatch hz) (by decide) (by decide) mw_441 (cast_self (M.2.2.2.2 _ mw_451)) (fun q H locs hw => ?_)
  refine lv_astore (lv' := [(4, .ref q), (0, .ref xo), (1, .int c1), (2, .int c2), (3, .ref ot)]) hx hb dL_join_13 hl (by decide) rfl (fun ls hl => ?_)
  refine lv_iconst (v := nI 1) hx hb dL_join_15 (by decide) ?_
  exact hret _ _ _ (nI 1) _ _ 1 6 (by decide) (by decide) dL_join_16 hw rfl ⟨rfl, rfl⟩
set_option maxHeartbeats 1000000 in
theorem lt_join_2 (l : Launch) (G : va_G) (Y : Nat → Nat) (xo ot : Nat) (c1 : Int32) (c2 : Int32) (f : Nat → Int64) (fs : List Value) (segsC : List va_W) {fr lo : Nat} (hC : CtT l yX5_join cX5_join 3 (some .int) fr lo [.ref xo, .int c1, .int c2] segsC eISE G Y) (hs0 : segsC[0]? = some [(xo, .inr (4, fs))]) : CtL l yL_join cL_join 5 [(0, 10, 13, 13), (0, 10, 17, 15)] (fr + 1) (8 + (3 + 11) + lo) [.ref xo, .int c1, .int c2, .ref ot] (outS Y ot f :: segsC) (fun k sg => k = nI 2 ∧ sg = outS Y ot f :: segsC) G Y := by
  refine x_ofL (by decide) (Nat.le_of_ble_eq_true rfl) (fun p e s m args below meth c A ls Q M hK hZ hN hw hl htab hret => ?_)
  obtain ⟨hx, hb, -⟩ := id M
  have hl : lv_has ls 5 [(0, .ref xo), (1, .int c1), (2, .int c2), (3, .ref ot)] := hl
  refine lv_aload_n hx hb dL_join_0 rfl (lv_at hl 3 rfl) ?_
  refine lv_iconst (v := nI 0) hx hb dL_join_1 (by decide) ?_
  refine lv_aload_n hx hb dL_join_2 rfl (lv_at hl 0 rfl) ?_
  refine lv_iload_n hx hb dL_join_3 rfl (lv_at hl 1 rfl) ?_
  refine lv_iload_n hx hb dL_join_4 rfl (lv_at hl 2 rfl) ?_
  refine x_catchV (As := [.int c1, .int c2]) (ri := 1) (rj := 0) (pre := [{ startPc := 0, endPc := 10, handlerPc := 13, catchType := 13 }]) (xh := { startPc := 0, endPc := 10, handlerPc := 17, catchType := 15 }) (suf := []) hC cw_L_49 (tailI segsC.length) M hK hZ hw hl.1 tailI_get tailI_nd hs0 rfl rfl ⟨Nat.le_refl _, Nat.le_refl _⟩ ⟨Nat.le_refl _, Nat.le_refl _⟩ rfl rfl (Nat.le_of_ble_eq_true rfl) dL_join_5 (htab.trans rfl) (fun z hz => by obtain rfl := List.mem_singleton.mp hz; exact Or.inr ⟨by decide, _, mw_441, hN.2.2⟩) (by decide) (by decide) mw_442 (cast_self (M.2.2.2.2 _ mw_522)) (fun q H locs hw => ?_)
  refine lv_astore (lv' := [(4, .ref q), (0, .ref xo), (1, .int c1), (2, .int c2), (3, .ref ot)]) hx hb dL_join_17 hl (by decide) rfl (fun ls hl => ?_)
  refine lv_iconst (v := nI 2) hx hb dL_join_19 (by decide) ?_
  exact hret _ _ _ (nI 2) _ _ 1 6 (by decide) (by decide) dL_join_20 hw rfl ⟨rfl, rfl⟩
set_option maxHeartbeats 1000000 in
theorem lk_value (l : Launch) (G : va_G) (Y : Nat → Nat) (xo ot : Nat) (c1 : Int32) (c2 : Int32) (c3 : Int32) (f : Nat → Int64) (fs : List Value) (segsC : List va_W) {post : Int32 → List va_W → Prop} {fr lo : Nat} (hC : CtI l yX5_value cX5_value 5 .int fr lo [.ref xo, .int c1, .int c2, .int c3] segsC post G Y) (hs0 : segsC[0]? = some [(xo, .inr (4, fs))]) : CtL l yL_value cL_value 6 [(0, 12, 15, 28), (0, 12, 19, 13)] (fr + 1) (8 + (5 + 11) + lo) [.ref xo, .int c1, .int c2, .int c3, .ref ot] (outS Y ot f :: segsC) (fun k sg => k = nI 0 ∧ ∃ r sg1, post r sg1 ∧ sg = outS Y ot (vp_updL f 0 r.toInt64) :: sg1) G Y := by
  refine x_ofL (by decide) (Nat.le_of_ble_eq_true rfl) (fun p e s m args below meth c A ls Q M hK hZ hN hw hl htab hret => ?_)
  obtain ⟨hx, hb, -⟩ := id M
  have hl : lv_has ls 6 [(0, .ref xo), (1, .int c1), (2, .int c2), (3, .int c3), (4, .ref ot)] := hl
  refine lv_aload hx hb dL_value_0 (lv_at hl 4 rfl) ?_
  refine lv_iconst (v := nI 0) hx hb dL_value_2 (by decide) ?_
  refine lv_aload_n hx hb dL_value_3 rfl (lv_at hl 0 rfl) ?_
  refine lv_iload_n hx hb dL_value_4 rfl (lv_at hl 1 rfl) ?_
  refine lv_iload_n hx hb dL_value_5 rfl (lv_at hl 2 rfl) ?_
  refine lv_iload_n hx hb dL_value_6 rfl (lv_at hl 3 rfl) ?_
  refine x_cVI2 (As := [.int c1, .int c2, .int c3]) hC cw_L_52 (tailI segsC.length) 1 0 M hK hZ hw hl.1 tailI_get tailI_nd hs0 rfl rfl ⟨Nat.le_refl _, Nat.le_refl _⟩ ⟨Nat.zero_le _, Nat.zero_le _⟩ rfl rfl (Nat.le_of_ble_eq_true rfl) dL_value_7 (fun r sg hp ha H locs hw => ?_)
  rw [xPut_tail ha] at hw
  refine lv_i2l (v := r.toInt64) hx hb dL_value_10 rfl ?_
  refine x_last M hK hw 0 0 rfl rfl (by decide) (by decide) dL_value_11 (fun H locs hw => ?_)
  refine lv_goto (tgt := 23) hx hb dL_value_12 (by decide) ?_
  refine lv_iconst (v := nI 0) hx hb dL_value_23 (by decide) ?_
  exact hret _ _ _ (nI 0) _ _ 0 0 (by decide) (by decide) dL_value_24 hw (by show _ :: sg.map ads = _ :: segsC.map ads; rw [ha]; rfl) ⟨rfl, r, sg, hp, rfl⟩
set_option maxHeartbeats 1000000 in
theorem lt_value_1 (l : Launch) (G : va_G) (Y : Nat → Nat) (xo ot : Nat) (c1 : Int32) (c2 : Int32) (c3 : Int32) (f : Nat → Int64) (fs : List Value) (segsC : List va_W) {fr lo : Nat} (hC : CtT l yX5_value cX5_value 5 (some .int) fr lo [.ref xo, .int c1, .int c2, .int c3] segsC eIOB G Y) (hs0 : segsC[0]? = some [(xo, .inr (4, fs))]) : CtL l yL_value cL_value 6 [(0, 12, 15, 28), (0, 12, 19, 13)] (fr + 1) (8 + (5 + 11) + lo) [.ref xo, .int c1, .int c2, .int c3, .ref ot] (outS Y ot f :: segsC) (fun k sg => k = nI 1 ∧ sg = outS Y ot f :: segsC) G Y := by
  refine x_ofL (by decide) (Nat.le_of_ble_eq_true rfl) (fun p e s m args below meth c A ls Q M hK hZ hN hw hl htab hret => ?_)
  obtain ⟨hx, hb, -⟩ := id M
  have hl : lv_has ls 6 [(0, .ref xo), (1, .int c1), (2, .int c2), (3, .int c3), (4, .ref ot)] := hl
  refine lv_aload hx hb dL_value_0 (lv_at hl 4 rfl) ?_
  refine lv_iconst (v := nI 0) hx hb dL_value_2 (by decide) ?_
  refine lv_aload_n hx hb dL_value_3 rfl (lv_at hl 0 rfl) ?_
  refine lv_iload_n hx hb dL_value_4 rfl (lv_at hl 1 rfl) ?_
  refine lv_iload_n hx hb dL_value_5 rfl (lv_at hl 2 rfl) ?_
  refine lv_iload_n hx hb dL_value_6 rfl (lv_at hl 3 rfl) ?_
  refine x_catchV (As := [.int c1, .int c2, .int c3]) (ri := 1) (rj := 0) (pre := []) (xh := { startPc := 0, endPc := 12, handlerPc := 15, catchType := 28 }) (suf := [{ startPc := 0, endPc := 12, handlerPc := 19, catchType := 13 }]) hC cw_L_52 (tailI segsC.length) M hK hZ hw hl.1 tailI_get tailI_nd hs0 rfl rfl ⟨Nat.le_refl _, Nat.le_refl _⟩ ⟨Nat.le_refl _, Nat.le_refl _⟩ rfl rfl (Nat.le_of_ble_eq_true rfl) dL_value_7 (htab.trans rfl) (fun z hz => nomatch hz) (by decide) (by decide) mw_655 (cast_self (M.2.2.2.2 _ mw_666)) (fun q H locs hw => ?_)
  refine lv_astore (lv' := [(5, .ref q), (0, .ref xo), (1, .int c1), (2, .int c2), (3, .int c3), (4, .ref ot)]) hx hb dL_value_15 hl (by decide) rfl (fun ls hl => ?_)
  refine lv_iconst (v := nI 1) hx hb dL_value_17 (by decide) ?_
  exact hret _ _ _ (nI 1) _ _ 1 6 (by decide) (by decide) dL_value_18 hw rfl ⟨rfl, rfl⟩
set_option maxHeartbeats 1000000 in
theorem lt_value_2 (l : Launch) (G : va_G) (Y : Nat → Nat) (xo ot : Nat) (c1 : Int32) (c2 : Int32) (c3 : Int32) (f : Nat → Int64) (fs : List Value) (segsC : List va_W) {fr lo : Nat} (hC : CtT l yX5_value cX5_value 5 (some .int) fr lo [.ref xo, .int c1, .int c2, .int c3] segsC eIAE G Y) (hs0 : segsC[0]? = some [(xo, .inr (4, fs))]) : CtL l yL_value cL_value 6 [(0, 12, 15, 28), (0, 12, 19, 13)] (fr + 1) (8 + (5 + 11) + lo) [.ref xo, .int c1, .int c2, .int c3, .ref ot] (outS Y ot f :: segsC) (fun k sg => k = nI 2 ∧ sg = outS Y ot f :: segsC) G Y := by
  refine x_ofL (by decide) (Nat.le_of_ble_eq_true rfl) (fun p e s m args below meth c A ls Q M hK hZ hN hw hl htab hret => ?_)
  obtain ⟨hx, hb, -⟩ := id M
  have hl : lv_has ls 6 [(0, .ref xo), (1, .int c1), (2, .int c2), (3, .int c3), (4, .ref ot)] := hl
  refine lv_aload hx hb dL_value_0 (lv_at hl 4 rfl) ?_
  refine lv_iconst (v := nI 0) hx hb dL_value_2 (by decide) ?_
  refine lv_aload_n hx hb dL_value_3 rfl (lv_at hl 0 rfl) ?_
  refine lv_iload_n hx hb dL_value_4 rfl (lv_at hl 1 rfl) ?_
  refine lv_iload_n hx hb dL_value_5 rfl (lv_at hl 2 rfl) ?_
  refine lv_iload_n hx hb dL_value_6 rfl (lv_at hl 3 rfl) ?_
  refine x_catchV (As := [.int c1, .int c2, .int c3]) (ri := 1) (rj := 0) (pre := [{ startPc := 0, endPc := 12, handlerPc := 15, catchType := 28 }]) (xh := { startPc := 0, endPc := 12, handlerPc := 19, catchType := 13 }) (suf := []) hC cw_L_52 (tailI segsC.length) M hK hZ hw hl.1 tailI_get tailI_nd hs0 rfl rfl ⟨Nat.le_refl _, Nat.le_refl _⟩ ⟨Nat.le_refl _, Nat.le_refl _⟩ rfl rfl (Nat.le_of_ble_eq_true rfl) dL_value_7 (htab.trans rfl) (fun z hz => by obtain rfl := List.mem_singleton.mp hz; exact Or.inr ⟨by decide, _, mw_655, hN.1⟩) (by decide) (by decide) mw_441 (cast_self (M.2.2.2.2 _ mw_451)) (fun q H locs hw => ?_)
  refine lv_astore (lv' := [(5, .ref q), (0, .ref xo), (1, .int c1), (2, .int c2), (3, .int c3), (4, .ref ot)]) hx hb dL_value_19 hl (by decide) rfl (fun ls hl => ?_)
  refine lv_iconst (v := nI 2) hx hb dL_value_21 (by decide) ?_
  exact hret _ _ _ (nI 2) _ _ 1 6 (by decide) (by decide) dL_value_22 hw rfl ⟨rfl, rfl⟩
set_option maxHeartbeats 1000000 in
theorem lk_ask (l : Launch) (G : va_G) (Y : Nat → Nat) (xo ot : Nat) (c1 : Int32) (c2 : Int32) (c3 : Int32) (f : Nat → Int64) (fs : List Value) (segsC : List va_W) {post : Int32 → List va_W → Prop} {fr lo : Nat} (hC : CtI l yX5_ask cX5_ask 4 .int fr lo [.ref xo, .int c1, .int c2, .int c3] segsC post G Y) (hs0 : segsC[0]? = some [(xo, .inr (4, fs))]) : CtL l yL_ask cL_ask 6 [(0, 12, 15, 28), (0, 12, 19, 13), (0, 12, 23, 15)] (fr + 1) (8 + (4 + 11) + lo) [.ref xo, .int c1, .int c2, .int c3, .ref ot] (outS Y ot f :: segsC) (fun k sg => k = nI 0 ∧ ∃ r sg1, post r sg1 ∧ sg = outS Y ot (vp_updL f 0 r.toInt64) :: sg1) G Y := by
  refine x_ofL (by decide) (Nat.le_of_ble_eq_true rfl) (fun p e s m args below meth c A ls Q M hK hZ hN hw hl htab hret => ?_)
  obtain ⟨hx, hb, -⟩ := id M
  have hl : lv_has ls 6 [(0, .ref xo), (1, .int c1), (2, .int c2), (3, .int c3), (4, .ref ot)] := hl
  refine lv_aload hx hb dL_ask_0 (lv_at hl 4 rfl) ?_
  refine lv_iconst (v := nI 0) hx hb dL_ask_2 (by decide) ?_
  refine lv_aload_n hx hb dL_ask_3 rfl (lv_at hl 0 rfl) ?_
  refine lv_iload_n hx hb dL_ask_4 rfl (lv_at hl 1 rfl) ?_
  refine lv_iload_n hx hb dL_ask_5 rfl (lv_at hl 2 rfl) ?_
  refine lv_iload_n hx hb dL_ask_6 rfl (lv_at hl 3 rfl) ?_
  refine x_cVI2 (As := [.int c1, .int c2, .int c3]) hC cw_L_55 (tailI segsC.length) 1 0 M hK hZ hw hl.1 tailI_get tailI_nd hs0 rfl rfl ⟨Nat.le_refl _, Nat.le_refl _⟩ ⟨Nat.zero_le _, Nat.zero_le _⟩ rfl rfl (Nat.le_of_ble_eq_true rfl) dL_ask_7 (fun r sg hp ha H locs hw => ?_)
  rw [xPut_tail ha] at hw
  refine lv_i2l (v := r.toInt64) hx hb dL_ask_10 rfl ?_
  refine x_last M hK hw 0 0 rfl rfl (by decide) (by decide) dL_ask_11 (fun H locs hw => ?_)
  refine lv_goto (tgt := 27) hx hb dL_ask_12 (by decide) ?_
  refine lv_iconst (v := nI 0) hx hb dL_ask_27 (by decide) ?_
  exact hret _ _ _ (nI 0) _ _ 0 0 (by decide) (by decide) dL_ask_28 hw (by show _ :: sg.map ads = _ :: segsC.map ads; rw [ha]; rfl) ⟨rfl, r, sg, hp, rfl⟩
set_option maxHeartbeats 1000000 in
theorem lt_ask_1 (l : Launch) (G : va_G) (Y : Nat → Nat) (xo ot : Nat) (c1 : Int32) (c2 : Int32) (c3 : Int32) (f : Nat → Int64) (fs : List Value) (segsC : List va_W) {fr lo : Nat} (hC : CtT l yX5_ask cX5_ask 4 (some .int) fr lo [.ref xo, .int c1, .int c2, .int c3] segsC eIOB G Y) (hs0 : segsC[0]? = some [(xo, .inr (4, fs))]) : CtL l yL_ask cL_ask 6 [(0, 12, 15, 28), (0, 12, 19, 13), (0, 12, 23, 15)] (fr + 1) (8 + (4 + 11) + lo) [.ref xo, .int c1, .int c2, .int c3, .ref ot] (outS Y ot f :: segsC) (fun k sg => k = nI 1 ∧ sg = outS Y ot f :: segsC) G Y := by
  refine x_ofL (by decide) (Nat.le_of_ble_eq_true rfl) (fun p e s m args below meth c A ls Q M hK hZ hN hw hl htab hret => ?_)
  obtain ⟨hx, hb, -⟩ := id M
  have hl : lv_has ls 6 [(0, .ref xo), (1, .int c1), (2, .int c2), (3, .int c3), (4, .ref ot)] := hl
  refine lv_aload hx hb dL_ask_0 (lv_at hl 4 rfl) ?_
  refine lv_iconst (v := nI 0) hx hb dL_ask_2 (by decide) ?_
  refine lv_aload_n hx hb dL_ask_3 rfl (lv_at hl 0 rfl) ?_
  refine lv_iload_n hx hb dL_ask_4 rfl (lv_at hl 1 rfl) ?_
  refine lv_iload_n hx hb dL_ask_5 rfl (lv_at hl 2 rfl) ?_
  refine lv_iload_n hx hb dL_ask_6 rfl (lv_at hl 3 rfl) ?_
  refine x_catchV (As := [.int c1, .int c2, .int c3]) (ri := 1) (rj := 0) (pre := []) (xh := { startPc := 0, endPc := 12, handlerPc := 15, catchType := 28 }) (suf := [{ startPc := 0, endPc := 12, handlerPc := 19, catchType := 13 }, { startPc := 0, endPc := 12, handlerPc := 23, catchType := 15 }]) hC cw_L_55 (tailI segsC.length) M hK hZ hw hl.1 tailI_get tailI_nd hs0 rfl rfl ⟨Nat.le_refl _, Nat.le_refl _⟩ ⟨Nat.le_refl _, Nat.le_refl _⟩ rfl rfl (Nat.le_of_ble_eq_true rfl) dL_ask_7 (htab.trans rfl) (fun z hz => nomatch hz) (by decide) (by decide) mw_655 (cast_self (M.2.2.2.2 _ mw_666)) (fun q H locs hw => ?_)
  refine lv_astore (lv' := [(5, .ref q), (0, .ref xo), (1, .int c1), (2, .int c2), (3, .int c3), (4, .ref ot)]) hx hb dL_ask_15 hl (by decide) rfl (fun ls hl => ?_)
  refine lv_iconst (v := nI 1) hx hb dL_ask_17 (by decide) ?_
  exact hret _ _ _ (nI 1) _ _ 1 6 (by decide) (by decide) dL_ask_18 hw rfl ⟨rfl, rfl⟩
set_option maxHeartbeats 1000000 in
theorem lt_ask_2 (l : Launch) (G : va_G) (Y : Nat → Nat) (xo ot : Nat) (c1 : Int32) (c2 : Int32) (c3 : Int32) (f : Nat → Int64) (fs : List Value) (segsC : List va_W) {fr lo : Nat} (hC : CtT l yX5_ask cX5_ask 4 (some .int) fr lo [.ref xo, .int c1, .int c2, .int c3] segsC eIAE G Y) (hs0 : segsC[0]? = some [(xo, .inr (4, fs))]) : CtL l yL_ask cL_ask 6 [(0, 12, 15, 28), (0, 12, 19, 13), (0, 12, 23, 15)] (fr + 1) (8 + (4 + 11) + lo) [.ref xo, .int c1, .int c2, .int c3, .ref ot] (outS Y ot f :: segsC) (fun k sg => k = nI 2 ∧ sg = outS Y ot f :: segsC) G Y := by
  refine x_ofL (by decide) (Nat.le_of_ble_eq_true rfl) (fun p e s m args below meth c A ls Q M hK hZ hN hw hl htab hret => ?_)
  obtain ⟨hx, hb, -⟩ := id M
  have hl : lv_has ls 6 [(0, .ref xo), (1, .int c1), (2, .int c2), (3, .int c3), (4, .ref ot)] := hl
  refine lv_aload hx hb dL_ask_0 (lv_at hl 4 rfl) ?_
  refine lv_iconst (v := nI 0) hx hb dL_ask_2 (by decide) ?_
  refine lv_aload_n hx hb dL_ask_3 rfl (lv_at hl 0 rfl) ?_
  refine lv_iload_n hx hb dL_ask_4 rfl (lv_at hl 1 rfl) ?_
  refine lv_iload_n hx hb dL_ask_5 rfl (lv_at hl 2 rfl) ?_
  refine lv_iload_n hx hb dL_ask_6 rfl (lv_at hl 3 rfl) ?_
  refine x_catchV (As := [.int c1, .int c2, .int c3]) (ri := 1) (rj := 0) (pre := [{ startPc := 0, endPc := 12, handlerPc := 15, catchType := 28 }]) (xh := { startPc := 0, endPc := 12, handlerPc := 19, catchType := 13 }) (suf := [{ startPc := 0, endPc := 12, handlerPc := 23, catchType := 15 }]) hC cw_L_55 (tailI segsC.length) M hK hZ hw hl.1 tailI_get tailI_nd hs0 rfl rfl ⟨Nat.le_refl _, Nat.le_refl _⟩ ⟨Nat.le_refl _, Nat.le_refl _⟩ rfl rfl (Nat.le_of_ble_eq_true rfl) dL_ask_7 (htab.trans rfl) (fun z hz => by obtain rfl := List.mem_singleton.mp hz; exact Or.inr ⟨by decide, _, mw_655, hN.1⟩) (by decide) (by decide) mw_441 (cast_self (M.2.2.2.2 _ mw_451)) (fun q H locs hw => ?_)
  refine lv_astore (lv' := [(5, .ref q), (0, .ref xo), (1, .int c1), (2, .int c2), (3, .int c3), (4, .ref ot)]) hx hb dL_ask_19 hl (by decide) rfl (fun ls hl => ?_)
  refine lv_iconst (v := nI 2) hx hb dL_ask_21 (by decide) ?_
  exact hret _ _ _ (nI 2) _ _ 1 6 (by decide) (by decide) dL_ask_22 hw rfl ⟨rfl, rfl⟩
set_option maxHeartbeats 1000000 in
theorem lt_ask_3 (l : Launch) (G : va_G) (Y : Nat → Nat) (xo ot : Nat) (c1 : Int32) (c2 : Int32) (c3 : Int32) (f : Nat → Int64) (fs : List Value) (segsC : List va_W) {fr lo : Nat} (hC : CtT l yX5_ask cX5_ask 4 (some .int) fr lo [.ref xo, .int c1, .int c2, .int c3] segsC eISE G Y) (hs0 : segsC[0]? = some [(xo, .inr (4, fs))]) : CtL l yL_ask cL_ask 6 [(0, 12, 15, 28), (0, 12, 19, 13), (0, 12, 23, 15)] (fr + 1) (8 + (4 + 11) + lo) [.ref xo, .int c1, .int c2, .int c3, .ref ot] (outS Y ot f :: segsC) (fun k sg => k = nI 3 ∧ sg = outS Y ot f :: segsC) G Y := by
  refine x_ofL (by decide) (Nat.le_of_ble_eq_true rfl) (fun p e s m args below meth c A ls Q M hK hZ hN hw hl htab hret => ?_)
  obtain ⟨hx, hb, -⟩ := id M
  have hl : lv_has ls 6 [(0, .ref xo), (1, .int c1), (2, .int c2), (3, .int c3), (4, .ref ot)] := hl
  refine lv_aload hx hb dL_ask_0 (lv_at hl 4 rfl) ?_
  refine lv_iconst (v := nI 0) hx hb dL_ask_2 (by decide) ?_
  refine lv_aload_n hx hb dL_ask_3 rfl (lv_at hl 0 rfl) ?_
  refine lv_iload_n hx hb dL_ask_4 rfl (lv_at hl 1 rfl) ?_
  refine lv_iload_n hx hb dL_ask_5 rfl (lv_at hl 2 rfl) ?_
  refine lv_iload_n hx hb dL_ask_6 rfl (lv_at hl 3 rfl) ?_
  refine x_catchV (As := [.int c1, .int c2, .int c3]) (ri := 1) (rj := 0) (pre := [{ startPc := 0, endPc := 12, handlerPc := 15, catchType := 28 }, { startPc := 0, endPc := 12, handlerPc := 19, catchType := 13 }]) (xh := { startPc := 0, endPc := 12, handlerPc := 23, catchType := 15 }) (suf := []) hC cw_L_55 (tailI segsC.length) M hK hZ hw hl.1 tailI_get tailI_nd hs0 rfl rfl ⟨Nat.le_refl _, Nat.le_refl _⟩ ⟨Nat.le_refl _, Nat.le_refl _⟩ rfl rfl (Nat.le_of_ble_eq_true rfl) dL_ask_7 (htab.trans rfl) (fun z hz => by rcases List.mem_cons.mp hz with rfl | hz; exact Or.inr ⟨by decide, _, mw_655, hN.2.1⟩; obtain rfl := List.mem_singleton.mp hz; exact Or.inr ⟨by decide, _, mw_441, hN.2.2⟩) (by decide) (by decide) mw_442 (cast_self (M.2.2.2.2 _ mw_522)) (fun q H locs hw => ?_)
  refine lv_astore (lv' := [(5, .ref q), (0, .ref xo), (1, .int c1), (2, .int c2), (3, .int c3), (4, .ref ot)]) hx hb dL_ask_23 hl (by decide) rfl (fun ls hl => ?_)
  refine lv_iconst (v := nI 3) hx hb dL_ask_25 (by decide) ?_
  exact hret _ _ _ (nI 3) _ _ 1 6 (by decide) (by decide) dL_ask_26 hw rfl ⟨rfl, rfl⟩
set_option maxHeartbeats 1000000 in
theorem lk_bid (l : Launch) (G : va_G) (Y : Nat → Nat) (xo ot : Nat) (c1 : Int32) (f : Nat → Int64) (fs : List Value) (segsC : List va_W) {post : Int32 → List va_W → Prop} {fr lo : Nat} (hC : CtI l yX5_bid cX5_bid 2 .int fr lo [.ref xo, .int c1] segsC post G Y) (hs0 : segsC[0]? = some [(xo, .inr (4, fs))]) : CtL l yL_bid cL_bid 4 [(0, 9, 12, 28), (0, 9, 15, 15)] (fr + 1) (8 + (2 + 11) + lo) [.ref xo, .int c1, .ref ot] (outS Y ot f :: segsC) (fun k sg => k = nI 0 ∧ ∃ r sg1, post r sg1 ∧ sg = outS Y ot (vp_updL f 0 r.toInt64) :: sg1) G Y := by
  refine x_ofL (by decide) (Nat.le_of_ble_eq_true rfl) (fun p e s m args below meth c A ls Q M hK hZ hN hw hl htab hret => ?_)
  obtain ⟨hx, hb, -⟩ := id M
  have hl : lv_has ls 4 [(0, .ref xo), (1, .int c1), (2, .ref ot)] := hl
  refine lv_aload_n hx hb dL_bid_0 rfl (lv_at hl 2 rfl) ?_
  refine lv_iconst (v := nI 0) hx hb dL_bid_1 (by decide) ?_
  refine lv_aload_n hx hb dL_bid_2 rfl (lv_at hl 0 rfl) ?_
  refine lv_iload_n hx hb dL_bid_3 rfl (lv_at hl 1 rfl) ?_
  refine x_cVI2 (As := [.int c1]) hC cw_L_58 (tailI segsC.length) 1 0 M hK hZ hw hl.1 tailI_get tailI_nd hs0 rfl rfl ⟨Nat.le_refl _, Nat.le_refl _⟩ ⟨Nat.zero_le _, Nat.zero_le _⟩ rfl rfl (Nat.le_of_ble_eq_true rfl) dL_bid_4 (fun r sg hp ha H locs hw => ?_)
  rw [xPut_tail ha] at hw
  refine lv_i2l (v := r.toInt64) hx hb dL_bid_7 rfl ?_
  refine x_last M hK hw 0 0 rfl rfl (by decide) (by decide) dL_bid_8 (fun H locs hw => ?_)
  refine lv_goto (tgt := 18) hx hb dL_bid_9 (by decide) ?_
  refine lv_iconst (v := nI 0) hx hb dL_bid_18 (by decide) ?_
  exact hret _ _ _ (nI 0) _ _ 0 0 (by decide) (by decide) dL_bid_19 hw (by show _ :: sg.map ads = _ :: segsC.map ads; rw [ha]; rfl) ⟨rfl, r, sg, hp, rfl⟩
set_option maxHeartbeats 1000000 in
theorem lt_bid_1 (l : Launch) (G : va_G) (Y : Nat → Nat) (xo ot : Nat) (c1 : Int32) (f : Nat → Int64) (fs : List Value) (segsC : List va_W) {fr lo : Nat} (hC : CtT l yX5_bid cX5_bid 2 (some .int) fr lo [.ref xo, .int c1] segsC eIOB G Y) (hs0 : segsC[0]? = some [(xo, .inr (4, fs))]) : CtL l yL_bid cL_bid 4 [(0, 9, 12, 28), (0, 9, 15, 15)] (fr + 1) (8 + (2 + 11) + lo) [.ref xo, .int c1, .ref ot] (outS Y ot f :: segsC) (fun k sg => k = nI 1 ∧ sg = outS Y ot f :: segsC) G Y := by
  refine x_ofL (by decide) (Nat.le_of_ble_eq_true rfl) (fun p e s m args below meth c A ls Q M hK hZ hN hw hl htab hret => ?_)
  obtain ⟨hx, hb, -⟩ := id M
  have hl : lv_has ls 4 [(0, .ref xo), (1, .int c1), (2, .ref ot)] := hl
  refine lv_aload_n hx hb dL_bid_0 rfl (lv_at hl 2 rfl) ?_
  refine lv_iconst (v := nI 0) hx hb dL_bid_1 (by decide) ?_
  refine lv_aload_n hx hb dL_bid_2 rfl (lv_at hl 0 rfl) ?_
  refine lv_iload_n hx hb dL_bid_3 rfl (lv_at hl 1 rfl) ?_
  refine x_catchV (As := [.int c1]) (ri := 1) (rj := 0) (pre := []) (xh := { startPc := 0, endPc := 9, handlerPc := 12, catchType := 28 }) (suf := [{ startPc := 0, endPc := 9, handlerPc := 15, catchType := 15 }]) hC cw_L_58 (tailI segsC.length) M hK hZ hw hl.1 tailI_get tailI_nd hs0 rfl rfl ⟨Nat.le_refl _, Nat.le_refl _⟩ ⟨Nat.le_refl _, Nat.le_refl _⟩ rfl rfl (Nat.le_of_ble_eq_true rfl) dL_bid_4 (htab.trans rfl) (fun z hz => nomatch hz) (by decide) (by decide) mw_655 (cast_self (M.2.2.2.2 _ mw_666)) (fun q H locs hw => ?_)
  refine lv_astore_n (lv' := [(3, .ref q), (0, .ref xo), (1, .int c1), (2, .ref ot)]) hx hb dL_bid_12 rfl hl (by decide) rfl (fun ls hl => ?_)
  refine lv_iconst (v := nI 1) hx hb dL_bid_13 (by decide) ?_
  exact hret _ _ _ (nI 1) _ _ 1 6 (by decide) (by decide) dL_bid_14 hw rfl ⟨rfl, rfl⟩
set_option maxHeartbeats 1000000 in
theorem lt_bid_2 (l : Launch) (G : va_G) (Y : Nat → Nat) (xo ot : Nat) (c1 : Int32) (f : Nat → Int64) (fs : List Value) (segsC : List va_W) {fr lo : Nat} (hC : CtT l yX5_bid cX5_bid 2 (some .int) fr lo [.ref xo, .int c1] segsC eISE G Y) (hs0 : segsC[0]? = some [(xo, .inr (4, fs))]) : CtL l yL_bid cL_bid 4 [(0, 9, 12, 28), (0, 9, 15, 15)] (fr + 1) (8 + (2 + 11) + lo) [.ref xo, .int c1, .ref ot] (outS Y ot f :: segsC) (fun k sg => k = nI 2 ∧ sg = outS Y ot f :: segsC) G Y := by
  refine x_ofL (by decide) (Nat.le_of_ble_eq_true rfl) (fun p e s m args below meth c A ls Q M hK hZ hN hw hl htab hret => ?_)
  obtain ⟨hx, hb, -⟩ := id M
  have hl : lv_has ls 4 [(0, .ref xo), (1, .int c1), (2, .ref ot)] := hl
  refine lv_aload_n hx hb dL_bid_0 rfl (lv_at hl 2 rfl) ?_
  refine lv_iconst (v := nI 0) hx hb dL_bid_1 (by decide) ?_
  refine lv_aload_n hx hb dL_bid_2 rfl (lv_at hl 0 rfl) ?_
  refine lv_iload_n hx hb dL_bid_3 rfl (lv_at hl 1 rfl) ?_
  refine x_catchV (As := [.int c1]) (ri := 1) (rj := 0) (pre := [{ startPc := 0, endPc := 9, handlerPc := 12, catchType := 28 }]) (xh := { startPc := 0, endPc := 9, handlerPc := 15, catchType := 15 }) (suf := []) hC cw_L_58 (tailI segsC.length) M hK hZ hw hl.1 tailI_get tailI_nd hs0 rfl rfl ⟨Nat.le_refl _, Nat.le_refl _⟩ ⟨Nat.le_refl _, Nat.le_refl _⟩ rfl rfl (Nat.le_of_ble_eq_true rfl) dL_bid_4 (htab.trans rfl) (fun z hz => by obtain rfl := List.mem_singleton.mp hz; exact Or.inr ⟨by decide, _, mw_655, hN.2.1⟩) (by decide) (by decide) mw_442 (cast_self (M.2.2.2.2 _ mw_522)) (fun q H locs hw => ?_)
  refine lv_astore_n (lv' := [(3, .ref q), (0, .ref xo), (1, .int c1), (2, .ref ot)]) hx hb dL_bid_15 rfl hl (by decide) rfl (fun ls hl => ?_)
  refine lv_iconst (v := nI 2) hx hb dL_bid_16 (by decide) ?_
  exact hret _ _ _ (nI 2) _ _ 1 6 (by decide) (by decide) dL_bid_17 hw rfl ⟨rfl, rfl⟩
set_option maxHeartbeats 1000000 in
theorem lk_close (l : Launch) (G : va_G) (Y : Nat → Nat) (xo ot : Nat)  (f : Nat → Int64) (fs : List Value) (segsC : List va_W) {post : Int32 → List va_W → Prop} {fr lo : Nat} (hC : CtI l yX5_close cX5_close 1 .int fr lo [.ref xo] segsC post G Y) (hs0 : segsC[0]? = some [(xo, .inr (4, fs))]) : CtL l yL_close cL_close 3 [(0, 8, 11, 15)] (fr + 1) (8 + (1 + 11) + lo) [.ref xo, .ref ot] (outS Y ot f :: segsC) (fun k sg => k = nI 0 ∧ ∃ r sg1, post r sg1 ∧ sg = outS Y ot (vp_updL f 0 r.toInt64) :: sg1) G Y := by
  refine x_ofL (by decide) (Nat.le_of_ble_eq_true rfl) (fun p e s m args below meth c A ls Q M hK hZ hN hw hl htab hret => ?_)
  obtain ⟨hx, hb, -⟩ := id M
  have hl : lv_has ls 3 [(0, .ref xo), (1, .ref ot)] := hl
  refine lv_aload_n hx hb dL_close_0 rfl (lv_at hl 1 rfl) ?_
  refine lv_iconst (v := nI 0) hx hb dL_close_1 (by decide) ?_
  refine lv_aload_n hx hb dL_close_2 rfl (lv_at hl 0 rfl) ?_
  refine x_cVI2 (As := []) hC cw_L_61 (tailI segsC.length) 1 0 M hK hZ hw hl.1 tailI_get tailI_nd hs0 rfl rfl ⟨Nat.le_refl _, Nat.le_refl _⟩ ⟨Nat.zero_le _, Nat.zero_le _⟩ rfl rfl (Nat.le_of_ble_eq_true rfl) dL_close_3 (fun r sg hp ha H locs hw => ?_)
  rw [xPut_tail ha] at hw
  refine lv_i2l (v := r.toInt64) hx hb dL_close_6 rfl ?_
  refine x_last M hK hw 0 0 rfl rfl (by decide) (by decide) dL_close_7 (fun H locs hw => ?_)
  refine lv_goto (tgt := 14) hx hb dL_close_8 (by decide) ?_
  refine lv_iconst (v := nI 0) hx hb dL_close_14 (by decide) ?_
  exact hret _ _ _ (nI 0) _ _ 0 0 (by decide) (by decide) dL_close_15 hw (by show _ :: sg.map ads = _ :: segsC.map ads; rw [ha]; rfl) ⟨rfl, r, sg, hp, rfl⟩
set_option maxHeartbeats 1000000 in
theorem lt_close_1 (l : Launch) (G : va_G) (Y : Nat → Nat) (xo ot : Nat)  (f : Nat → Int64) (fs : List Value) (segsC : List va_W) {fr lo : Nat} (hC : CtT l yX5_close cX5_close 1 (some .int) fr lo [.ref xo] segsC eISE G Y) (hs0 : segsC[0]? = some [(xo, .inr (4, fs))]) : CtL l yL_close cL_close 3 [(0, 8, 11, 15)] (fr + 1) (8 + (1 + 11) + lo) [.ref xo, .ref ot] (outS Y ot f :: segsC) (fun k sg => k = nI 1 ∧ sg = outS Y ot f :: segsC) G Y := by
  refine x_ofL (by decide) (Nat.le_of_ble_eq_true rfl) (fun p e s m args below meth c A ls Q M hK hZ hN hw hl htab hret => ?_)
  obtain ⟨hx, hb, -⟩ := id M
  have hl : lv_has ls 3 [(0, .ref xo), (1, .ref ot)] := hl
  refine lv_aload_n hx hb dL_close_0 rfl (lv_at hl 1 rfl) ?_
  refine lv_iconst (v := nI 0) hx hb dL_close_1 (by decide) ?_
  refine lv_aload_n hx hb dL_close_2 rfl (lv_at hl 0 rfl) ?_
  refine x_catchV (As := []) (ri := 1) (rj := 0) (pre := []) (xh := { startPc := 0, endPc := 8, handlerPc := 11, catchType := 15 }) (suf := []) hC cw_L_61 (tailI segsC.length) M hK hZ hw hl.1 tailI_get tailI_nd hs0 rfl rfl ⟨Nat.le_refl _, Nat.le_refl _⟩ ⟨Nat.le_refl _, Nat.le_refl _⟩ rfl rfl (Nat.le_of_ble_eq_true rfl) dL_close_3 (htab.trans rfl) (fun z hz => nomatch hz) (by decide) (by decide) mw_442 (cast_self (M.2.2.2.2 _ mw_522)) (fun q H locs hw => ?_)
  refine lv_astore_n (lv' := [(2, .ref q), (0, .ref xo), (1, .ref ot)]) hx hb dL_close_11 rfl hl (by decide) rfl (fun ls hl => ?_)
  refine lv_iconst (v := nI 1) hx hb dL_close_12 (by decide) ?_
  exact hret _ _ _ (nI 1) _ _ 1 6 (by decide) (by decide) dL_close_13 hw rfl ⟨rfl, rfl⟩
set_option maxHeartbeats 1000000 in
theorem lk_add (l : Launch) (G : va_G) (Y : Nat → Nat) (xo ot : Nat) (c1 : Int32) (c2 : Int32) (c3 : Int32) (c4 : Int32) (c5 : Int32) (f : Nat → Int64) (fs : List Value) (segsC : List va_W) {post : Int32 → List va_W → Prop} {fr lo : Nat} (hC : CtI l yX5_add cX5_add 6 .int fr lo [.ref xo, .int c1, .int c2, .int c3, .int c4, .int c5] segsC post G Y) (hs0 : segsC[0]? = some [(xo, .inr (4, fs))]) : CtL l yL_add cL_add 8 [(0, 16, 19, 28), (0, 16, 23, 13), (0, 16, 27, 15)] (fr + 1) (8 + (6 + 11) + lo) [.ref xo, .int c1, .int c2, .int c3, .int c4, .int c5, .ref ot] (outS Y ot f :: segsC) (fun k sg => k = nI 0 ∧ ∃ r sg1, post r sg1 ∧ sg = outS Y ot (vp_updL f 0 r.toInt64) :: sg1) G Y := by
  refine x_ofL (by decide) (Nat.le_of_ble_eq_true rfl) (fun p e s m args below meth c A ls Q M hK hZ hN hw hl htab hret => ?_)
  obtain ⟨hx, hb, -⟩ := id M
  have hl : lv_has ls 8 [(0, .ref xo), (1, .int c1), (2, .int c2), (3, .int c3), (4, .int c4), (5, .int c5), (6, .ref ot)] := hl
  refine lv_aload hx hb dL_add_0 (lv_at hl 6 rfl) ?_
  refine lv_iconst (v := nI 0) hx hb dL_add_2 (by decide) ?_
  refine lv_aload_n hx hb dL_add_3 rfl (lv_at hl 0 rfl) ?_
  refine lv_iload_n hx hb dL_add_4 rfl (lv_at hl 1 rfl) ?_
  refine lv_iload_n hx hb dL_add_5 rfl (lv_at hl 2 rfl) ?_
  refine lv_iload_n hx hb dL_add_6 rfl (lv_at hl 3 rfl) ?_
  refine lv_iload hx hb dL_add_7 (lv_at hl 4 rfl) ?_
  refine lv_iload hx hb dL_add_9 (lv_at hl 5 rfl) ?_
  refine x_cVI2 (As := [.int c1, .int c2, .int c3, .int c4, .int c5]) hC cw_L_64 (tailI segsC.length) 1 0 M hK hZ hw hl.1 tailI_get tailI_nd hs0 rfl rfl ⟨Nat.le_refl _, Nat.le_refl _⟩ ⟨Nat.zero_le _, Nat.zero_le _⟩ rfl rfl (Nat.le_of_ble_eq_true rfl) dL_add_11 (fun r sg hp ha H locs hw => ?_)
  rw [xPut_tail ha] at hw
  refine lv_i2l (v := r.toInt64) hx hb dL_add_14 rfl ?_
  refine x_last M hK hw 0 0 rfl rfl (by decide) (by decide) dL_add_15 (fun H locs hw => ?_)
  refine lv_goto (tgt := 31) hx hb dL_add_16 (by decide) ?_
  refine lv_iconst (v := nI 0) hx hb dL_add_31 (by decide) ?_
  exact hret _ _ _ (nI 0) _ _ 0 0 (by decide) (by decide) dL_add_32 hw (by show _ :: sg.map ads = _ :: segsC.map ads; rw [ha]; rfl) ⟨rfl, r, sg, hp, rfl⟩
set_option maxHeartbeats 1000000 in
theorem lt_add_1 (l : Launch) (G : va_G) (Y : Nat → Nat) (xo ot : Nat) (c1 : Int32) (c2 : Int32) (c3 : Int32) (c4 : Int32) (c5 : Int32) (f : Nat → Int64) (fs : List Value) (segsC : List va_W) {fr lo : Nat} (hC : CtT l yX5_add cX5_add 6 (some .int) fr lo [.ref xo, .int c1, .int c2, .int c3, .int c4, .int c5] segsC eIOB G Y) (hs0 : segsC[0]? = some [(xo, .inr (4, fs))]) : CtL l yL_add cL_add 8 [(0, 16, 19, 28), (0, 16, 23, 13), (0, 16, 27, 15)] (fr + 1) (8 + (6 + 11) + lo) [.ref xo, .int c1, .int c2, .int c3, .int c4, .int c5, .ref ot] (outS Y ot f :: segsC) (fun k sg => k = nI 1 ∧ sg = outS Y ot f :: segsC) G Y := by
  refine x_ofL (by decide) (Nat.le_of_ble_eq_true rfl) (fun p e s m args below meth c A ls Q M hK hZ hN hw hl htab hret => ?_)
  obtain ⟨hx, hb, -⟩ := id M
  have hl : lv_has ls 8 [(0, .ref xo), (1, .int c1), (2, .int c2), (3, .int c3), (4, .int c4), (5, .int c5), (6, .ref ot)] := hl
  refine lv_aload hx hb dL_add_0 (lv_at hl 6 rfl) ?_
  refine lv_iconst (v := nI 0) hx hb dL_add_2 (by decide) ?_
  refine lv_aload_n hx hb dL_add_3 rfl (lv_at hl 0 rfl) ?_
  refine lv_iload_n hx hb dL_add_4 rfl (lv_at hl 1 rfl) ?_
  refine lv_iload_n hx hb dL_add_5 rfl (lv_at hl 2 rfl) ?_
  refine lv_iload_n hx hb dL_add_6 rfl (lv_at hl 3 rfl) ?_
  refine lv_iload hx hb dL_add_7 (lv_at hl 4 rfl) ?_
  refine lv_iload hx hb dL_add_9 (lv_at hl 5 rfl) ?_
  refine x_catchV (As := [.int c1, .int c2, .int c3, .int c4, .int c5]) (ri := 1) (rj := 0) (pre := []) (xh := { startPc := 0, endPc := 16, handlerPc := 19, catchType := 28 }) (suf := [{ startPc := 0, endPc := 16, handlerPc := 23, catchType := 13 }, { startPc := 0, endPc := 16, handlerPc := 27, catchType := 15 }]) hC cw_L_64 (tailI segsC.length) M hK hZ hw hl.1 tailI_get tailI_nd hs0 rfl rfl ⟨Nat.le_refl _, Nat.le_refl _⟩ ⟨Nat.le_refl _, Nat.le_refl _⟩ rfl rfl (Nat.le_of_ble_eq_true rfl) dL_add_11 (htab.trans rfl) (fun z hz => nomatch hz) (by decide) (by decide) mw_655 (cast_self (M.2.2.2.2 _ mw_666)) (fun q H locs hw => ?_)
  refine lv_astore (lv' := [(7, .ref q), (0, .ref xo), (1, .int c1), (2, .int c2), (3, .int c3), (4, .int c4), (5, .int c5), (6, .ref ot)]) hx hb dL_add_19 hl (by decide) rfl (fun ls hl => ?_)
  refine lv_iconst (v := nI 1) hx hb dL_add_21 (by decide) ?_
  exact hret _ _ _ (nI 1) _ _ 1 6 (by decide) (by decide) dL_add_22 hw rfl ⟨rfl, rfl⟩
set_option maxHeartbeats 1000000 in
theorem lt_add_2 (l : Launch) (G : va_G) (Y : Nat → Nat) (xo ot : Nat) (c1 : Int32) (c2 : Int32) (c3 : Int32) (c4 : Int32) (c5 : Int32) (f : Nat → Int64) (fs : List Value) (segsC : List va_W) {fr lo : Nat} (hC : CtT l yX5_add cX5_add 6 (some .int) fr lo [.ref xo, .int c1, .int c2, .int c3, .int c4, .int c5] segsC eIAE G Y) (hs0 : segsC[0]? = some [(xo, .inr (4, fs))]) : CtL l yL_add cL_add 8 [(0, 16, 19, 28), (0, 16, 23, 13), (0, 16, 27, 15)] (fr + 1) (8 + (6 + 11) + lo) [.ref xo, .int c1, .int c2, .int c3, .int c4, .int c5, .ref ot] (outS Y ot f :: segsC) (fun k sg => k = nI 2 ∧ sg = outS Y ot f :: segsC) G Y := by
  refine x_ofL (by decide) (Nat.le_of_ble_eq_true rfl) (fun p e s m args below meth c A ls Q M hK hZ hN hw hl htab hret => ?_)
  obtain ⟨hx, hb, -⟩ := id M
  have hl : lv_has ls 8 [(0, .ref xo), (1, .int c1), (2, .int c2), (3, .int c3), (4, .int c4), (5, .int c5), (6, .ref ot)] := hl
  refine lv_aload hx hb dL_add_0 (lv_at hl 6 rfl) ?_
  refine lv_iconst (v := nI 0) hx hb dL_add_2 (by decide) ?_
  refine lv_aload_n hx hb dL_add_3 rfl (lv_at hl 0 rfl) ?_
  refine lv_iload_n hx hb dL_add_4 rfl (lv_at hl 1 rfl) ?_
  refine lv_iload_n hx hb dL_add_5 rfl (lv_at hl 2 rfl) ?_
  refine lv_iload_n hx hb dL_add_6 rfl (lv_at hl 3 rfl) ?_
  refine lv_iload hx hb dL_add_7 (lv_at hl 4 rfl) ?_
  refine lv_iload hx hb dL_add_9 (lv_at hl 5 rfl) ?_
  refine x_catchV (As := [.int c1, .int c2, .int c3, .int c4, .int c5]) (ri := 1) (rj := 0) (pre := [{ startPc := 0, endPc := 16, handlerPc := 19, catchType := 28 }]) (xh := { startPc := 0, endPc := 16, handlerPc := 23, catchType := 13 }) (suf := [{ startPc := 0, endPc := 16, handlerPc := 27, catchType := 15 }]) hC cw_L_64 (tailI segsC.length) M hK hZ hw hl.1 tailI_get tailI_nd hs0 rfl rfl ⟨Nat.le_refl _, Nat.le_refl _⟩ ⟨Nat.le_refl _, Nat.le_refl _⟩ rfl rfl (Nat.le_of_ble_eq_true rfl) dL_add_11 (htab.trans rfl) (fun z hz => by obtain rfl := List.mem_singleton.mp hz; exact Or.inr ⟨by decide, _, mw_655, hN.1⟩) (by decide) (by decide) mw_441 (cast_self (M.2.2.2.2 _ mw_451)) (fun q H locs hw => ?_)
  refine lv_astore (lv' := [(7, .ref q), (0, .ref xo), (1, .int c1), (2, .int c2), (3, .int c3), (4, .int c4), (5, .int c5), (6, .ref ot)]) hx hb dL_add_23 hl (by decide) rfl (fun ls hl => ?_)
  refine lv_iconst (v := nI 2) hx hb dL_add_25 (by decide) ?_
  exact hret _ _ _ (nI 2) _ _ 1 6 (by decide) (by decide) dL_add_26 hw rfl ⟨rfl, rfl⟩
set_option maxHeartbeats 1000000 in
theorem lt_add_3 (l : Launch) (G : va_G) (Y : Nat → Nat) (xo ot : Nat) (c1 : Int32) (c2 : Int32) (c3 : Int32) (c4 : Int32) (c5 : Int32) (f : Nat → Int64) (fs : List Value) (segsC : List va_W) {fr lo : Nat} (hC : CtT l yX5_add cX5_add 6 (some .int) fr lo [.ref xo, .int c1, .int c2, .int c3, .int c4, .int c5] segsC eISE G Y) (hs0 : segsC[0]? = some [(xo, .inr (4, fs))]) : CtL l yL_add cL_add 8 [(0, 16, 19, 28), (0, 16, 23, 13), (0, 16, 27, 15)] (fr + 1) (8 + (6 + 11) + lo) [.ref xo, .int c1, .int c2, .int c3, .int c4, .int c5, .ref ot] (outS Y ot f :: segsC) (fun k sg => k = nI 3 ∧ sg = outS Y ot f :: segsC) G Y := by
  refine x_ofL (by decide) (Nat.le_of_ble_eq_true rfl) (fun p e s m args below meth c A ls Q M hK hZ hN hw hl htab hret => ?_)
  obtain ⟨hx, hb, -⟩ := id M
  have hl : lv_has ls 8 [(0, .ref xo), (1, .int c1), (2, .int c2), (3, .int c3), (4, .int c4), (5, .int c5), (6, .ref ot)] := hl
  refine lv_aload hx hb dL_add_0 (lv_at hl 6 rfl) ?_
  refine lv_iconst (v := nI 0) hx hb dL_add_2 (by decide) ?_
  refine lv_aload_n hx hb dL_add_3 rfl (lv_at hl 0 rfl) ?_
  refine lv_iload_n hx hb dL_add_4 rfl (lv_at hl 1 rfl) ?_
  refine lv_iload_n hx hb dL_add_5 rfl (lv_at hl 2 rfl) ?_
  refine lv_iload_n hx hb dL_add_6 rfl (lv_at hl 3 rfl) ?_
  refine lv_iload hx hb dL_add_7 (lv_at hl 4 rfl) ?_
  refine lv_iload hx hb dL_add_9 (lv_at hl 5 rfl) ?_
  refine x_catchV (As := [.int c1, .int c2, .int c3, .int c4, .int c5]) (ri := 1) (rj := 0) (pre := [{ startPc := 0, endPc := 16, handlerPc := 19, catchType := 28 }, { startPc := 0, endPc := 16, handlerPc := 23, catchType := 13 }]) (xh := { startPc := 0, endPc := 16, handlerPc := 27, catchType := 15 }) (suf := []) hC cw_L_64 (tailI segsC.length) M hK hZ hw hl.1 tailI_get tailI_nd hs0 rfl rfl ⟨Nat.le_refl _, Nat.le_refl _⟩ ⟨Nat.le_refl _, Nat.le_refl _⟩ rfl rfl (Nat.le_of_ble_eq_true rfl) dL_add_11 (htab.trans rfl) (fun z hz => by rcases List.mem_cons.mp hz with rfl | hz; exact Or.inr ⟨by decide, _, mw_655, hN.2.1⟩; obtain rfl := List.mem_singleton.mp hz; exact Or.inr ⟨by decide, _, mw_441, hN.2.2⟩) (by decide) (by decide) mw_442 (cast_self (M.2.2.2.2 _ mw_522)) (fun q H locs hw => ?_)
  refine lv_astore (lv' := [(7, .ref q), (0, .ref xo), (1, .int c1), (2, .int c2), (3, .int c3), (4, .int c4), (5, .int c5), (6, .ref ot)]) hx hb dL_add_27 hl (by decide) rfl (fun ls hl => ?_)
  refine lv_iconst (v := nI 3) hx hb dL_add_29 (by decide) ?_
  exact hret _ _ _ (nI 3) _ _ 1 6 (by decide) (by decide) dL_add_30 hw rfl ⟨rfl, rfl⟩
set_option maxHeartbeats 1000000 in
theorem lk_drop (l : Launch) (G : va_G) (Y : Nat → Nat) (xo ot : Nat) (c1 : Int32) (c2 : Int32) (f : Nat → Int64) (fs : List Value) (segsC : List va_W) {post : Int32 → List va_W → Prop} {fr lo : Nat} (hC : CtI l yX5_drop cX5_drop 3 .int fr lo [.ref xo, .int c1, .int c2] segsC post G Y) (hs0 : segsC[0]? = some [(xo, .inr (4, fs))]) : CtL l yL_drop cL_drop 5 [(0, 10, 13, 28)] (fr + 1) (8 + (3 + 11) + lo) [.ref xo, .int c1, .int c2, .ref ot] (outS Y ot f :: segsC) (fun k sg => k = nI 0 ∧ ∃ r sg1, post r sg1 ∧ sg = outS Y ot (vp_updL f 0 r.toInt64) :: sg1) G Y := by
  refine x_ofL (by decide) (Nat.le_of_ble_eq_true rfl) (fun p e s m args below meth c A ls Q M hK hZ hN hw hl htab hret => ?_)
  obtain ⟨hx, hb, -⟩ := id M
  have hl : lv_has ls 5 [(0, .ref xo), (1, .int c1), (2, .int c2), (3, .ref ot)] := hl
  refine lv_aload_n hx hb dL_drop_0 rfl (lv_at hl 3 rfl) ?_
  refine lv_iconst (v := nI 0) hx hb dL_drop_1 (by decide) ?_
  refine lv_aload_n hx hb dL_drop_2 rfl (lv_at hl 0 rfl) ?_
  refine lv_iload_n hx hb dL_drop_3 rfl (lv_at hl 1 rfl) ?_
  refine lv_iload_n hx hb dL_drop_4 rfl (lv_at hl 2 rfl) ?_
  refine x_cVI2 (As := [.int c1, .int c2]) hC cw_L_68 (tailI segsC.length) 1 0 M hK hZ hw hl.1 tailI_get tailI_nd hs0 rfl rfl ⟨Nat.le_refl _, Nat.le_refl _⟩ ⟨Nat.zero_le _, Nat.zero_le _⟩ rfl rfl (Nat.le_of_ble_eq_true rfl) dL_drop_5 (fun r sg hp ha H locs hw => ?_)
  rw [xPut_tail ha] at hw
  refine lv_i2l (v := r.toInt64) hx hb dL_drop_8 rfl ?_
  refine x_last M hK hw 0 0 rfl rfl (by decide) (by decide) dL_drop_9 (fun H locs hw => ?_)
  refine lv_goto (tgt := 17) hx hb dL_drop_10 (by decide) ?_
  refine lv_iconst (v := nI 0) hx hb dL_drop_17 (by decide) ?_
  exact hret _ _ _ (nI 0) _ _ 0 0 (by decide) (by decide) dL_drop_18 hw (by show _ :: sg.map ads = _ :: segsC.map ads; rw [ha]; rfl) ⟨rfl, r, sg, hp, rfl⟩
set_option maxHeartbeats 1000000 in
theorem lt_drop_1 (l : Launch) (G : va_G) (Y : Nat → Nat) (xo ot : Nat) (c1 : Int32) (c2 : Int32) (f : Nat → Int64) (fs : List Value) (segsC : List va_W) {fr lo : Nat} (hC : CtT l yX5_drop cX5_drop 3 (some .int) fr lo [.ref xo, .int c1, .int c2] segsC eIOB G Y) (hs0 : segsC[0]? = some [(xo, .inr (4, fs))]) : CtL l yL_drop cL_drop 5 [(0, 10, 13, 28)] (fr + 1) (8 + (3 + 11) + lo) [.ref xo, .int c1, .int c2, .ref ot] (outS Y ot f :: segsC) (fun k sg => k = nI 1 ∧ sg = outS Y ot f :: segsC) G Y := by
  refine x_ofL (by decide) (Nat.le_of_ble_eq_true rfl) (fun p e s m args below meth c A ls Q M hK hZ hN hw hl htab hret => ?_)
  obtain ⟨hx, hb, -⟩ := id M
  have hl : lv_has ls 5 [(0, .ref xo), (1, .int c1), (2, .int c2), (3, .ref ot)] := hl
  refine lv_aload_n hx hb dL_drop_0 rfl (lv_at hl 3 rfl) ?_
  refine lv_iconst (v := nI 0) hx hb dL_drop_1 (by decide) ?_
  refine lv_aload_n hx hb dL_drop_2 rfl (lv_at hl 0 rfl) ?_
  refine lv_iload_n hx hb dL_drop_3 rfl (lv_at hl 1 rfl) ?_
  refine lv_iload_n hx hb dL_drop_4 rfl (lv_at hl 2 rfl) ?_
  refine x_catchV (As := [.int c1, .int c2]) (ri := 1) (rj := 0) (pre := []) (xh := { startPc := 0, endPc := 10, handlerPc := 13, catchType := 28 }) (suf := []) hC cw_L_68 (tailI segsC.length) M hK hZ hw hl.1 tailI_get tailI_nd hs0 rfl rfl ⟨Nat.le_refl _, Nat.le_refl _⟩ ⟨Nat.le_refl _, Nat.le_refl _⟩ rfl rfl (Nat.le_of_ble_eq_true rfl) dL_drop_5 (htab.trans rfl) (fun z hz => nomatch hz) (by decide) (by decide) mw_655 (cast_self (M.2.2.2.2 _ mw_666)) (fun q H locs hw => ?_)
  refine lv_astore (lv' := [(4, .ref q), (0, .ref xo), (1, .int c1), (2, .int c2), (3, .ref ot)]) hx hb dL_drop_13 hl (by decide) rfl (fun ls hl => ?_)
  refine lv_iconst (v := nI 1) hx hb dL_drop_15 (by decide) ?_
  exact hret _ _ _ (nI 1) _ _ 1 6 (by decide) (by decide) dL_drop_16 hw rfl ⟨rfl, rfl⟩
set_option maxHeartbeats 1000000 in
theorem lk_set (l : Launch) (G : va_G) (Y : Nat → Nat) (xo ot : Nat) (c1 : Int32) (c2 : Int32) (f : Nat → Int64) (fs : List Value) (segsC : List va_W) {post : Int32 → List va_W → Prop} {fr lo : Nat} (hC : CtI l yX5_set cX5_set 4 .int fr lo [.ref xo, .int c1, .int c2] segsC post G Y) (hs0 : segsC[0]? = some [(xo, .inr (4, fs))]) : CtL l yL_set cL_set 5 [(0, 10, 13, 13)] (fr + 1) (8 + (4 + 11) + lo) [.ref xo, .int c1, .int c2, .ref ot] (outS Y ot f :: segsC) (fun k sg => k = nI 0 ∧ ∃ r sg1, post r sg1 ∧ sg = outS Y ot (vp_updL f 0 r.toInt64) :: sg1) G Y := by
  refine x_ofL (by decide) (Nat.le_of_ble_eq_true rfl) (fun p e s m args below meth c A ls Q M hK hZ hN hw hl htab hret => ?_)
  obtain ⟨hx, hb, -⟩ := id M
  have hl : lv_has ls 5 [(0, .ref xo), (1, .int c1), (2, .int c2), (3, .ref ot)] := hl
  refine lv_aload_n hx hb dL_set_0 rfl (lv_at hl 3 rfl) ?_
  refine lv_iconst (v := nI 0) hx hb dL_set_1 (by decide) ?_
  refine lv_aload_n hx hb dL_set_2 rfl (lv_at hl 0 rfl) ?_
  refine lv_iload_n hx hb dL_set_3 rfl (lv_at hl 1 rfl) ?_
  refine lv_iload_n hx hb dL_set_4 rfl (lv_at hl 2 rfl) ?_
  refine x_cVI2 (As := [.int c1, .int c2]) hC cw_L_71 (tailI segsC.length) 1 0 M hK hZ hw hl.1 tailI_get tailI_nd hs0 rfl rfl ⟨Nat.le_refl _, Nat.le_refl _⟩ ⟨Nat.zero_le _, Nat.zero_le _⟩ rfl rfl (Nat.le_of_ble_eq_true rfl) dL_set_5 (fun r sg hp ha H locs hw => ?_)
  rw [xPut_tail ha] at hw
  refine lv_i2l (v := r.toInt64) hx hb dL_set_8 rfl ?_
  refine x_last M hK hw 0 0 rfl rfl (by decide) (by decide) dL_set_9 (fun H locs hw => ?_)
  refine lv_goto (tgt := 17) hx hb dL_set_10 (by decide) ?_
  refine lv_iconst (v := nI 0) hx hb dL_set_17 (by decide) ?_
  exact hret _ _ _ (nI 0) _ _ 0 0 (by decide) (by decide) dL_set_18 hw (by show _ :: sg.map ads = _ :: segsC.map ads; rw [ha]; rfl) ⟨rfl, r, sg, hp, rfl⟩
set_option maxHeartbeats 1000000 in
theorem lt_set_1 (l : Launch) (G : va_G) (Y : Nat → Nat) (xo ot : Nat) (c1 : Int32) (c2 : Int32) (f : Nat → Int64) (fs : List Value) (segsC : List va_W) {fr lo : Nat} (hC : CtT l yX5_set cX5_set 4 (some .int) fr lo [.ref xo, .int c1, .int c2] segsC eIAE G Y) (hs0 : segsC[0]? = some [(xo, .inr (4, fs))]) : CtL l yL_set cL_set 5 [(0, 10, 13, 13)] (fr + 1) (8 + (4 + 11) + lo) [.ref xo, .int c1, .int c2, .ref ot] (outS Y ot f :: segsC) (fun k sg => k = nI 1 ∧ sg = outS Y ot f :: segsC) G Y := by
  refine x_ofL (by decide) (Nat.le_of_ble_eq_true rfl) (fun p e s m args below meth c A ls Q M hK hZ hN hw hl htab hret => ?_)
  obtain ⟨hx, hb, -⟩ := id M
  have hl : lv_has ls 5 [(0, .ref xo), (1, .int c1), (2, .int c2), (3, .ref ot)] := hl
  refine lv_aload_n hx hb dL_set_0 rfl (lv_at hl 3 rfl) ?_
  refine lv_iconst (v := nI 0) hx hb dL_set_1 (by decide) ?_
  refine lv_aload_n hx hb dL_set_2 rfl (lv_at hl 0 rfl) ?_
  refine lv_iload_n hx hb dL_set_3 rfl (lv_at hl 1 rfl) ?_
  refine lv_iload_n hx hb dL_set_4 rfl (lv_at hl 2 rfl) ?_
  refine x_catchV (As := [.int c1, .int c2]) (ri := 1) (rj := 0) (pre := []) (xh := { startPc := 0, endPc := 10, handlerPc := 13, catchType := 13 }) (suf := []) hC cw_L_71 (tailI segsC.length) M hK hZ hw hl.1 tailI_get tailI_nd hs0 rfl rfl ⟨Nat.le_refl _, Nat.le_refl _⟩ ⟨Nat.le_refl _, Nat.le_refl _⟩ rfl rfl (Nat.le_of_ble_eq_true rfl) dL_set_5 (htab.trans rfl) (fun z hz => nomatch hz) (by decide) (by decide) mw_441 (cast_self (M.2.2.2.2 _ mw_451)) (fun q H locs hw => ?_)
  refine lv_astore (lv' := [(4, .ref q), (0, .ref xo), (1, .int c1), (2, .int c2), (3, .ref ot)]) hx hb dL_set_13 hl (by decide) rfl (fun ls hl => ?_)
  refine lv_iconst (v := nI 1) hx hb dL_set_15 (by decide) ?_
  exact hret _ _ _ (nI 1) _ _ 1 6 (by decide) (by decide) dL_set_16 hw rfl ⟨rfl, rfl⟩
set_option maxHeartbeats 1000000 in
theorem lk_undo (l : Launch) (G : va_G) (Y : Nat → Nat) (xo ot : Nat)  (f : Nat → Int64) (fs : List Value) (segsC : List va_W) {post : Int32 → List va_W → Prop} {fr lo : Nat} (hC : CtI l yX5_undo cX5_undo 1 .int fr lo [.ref xo] segsC post G Y) (hs0 : segsC[0]? = some [(xo, .inr (4, fs))]) : CtL l yL_undo cL_undo 3 [(0, 8, 11, 15)] (fr + 1) (8 + (1 + 11) + lo) [.ref xo, .ref ot] (outS Y ot f :: segsC) (fun k sg => k = nI 0 ∧ ∃ r sg1, post r sg1 ∧ sg = outS Y ot (vp_updL f 0 r.toInt64) :: sg1) G Y := by
  refine x_ofL (by decide) (Nat.le_of_ble_eq_true rfl) (fun p e s m args below meth c A ls Q M hK hZ hN hw hl htab hret => ?_)
  obtain ⟨hx, hb, -⟩ := id M
  have hl : lv_has ls 3 [(0, .ref xo), (1, .ref ot)] := hl
  refine lv_aload_n hx hb dL_undo_0 rfl (lv_at hl 1 rfl) ?_
  refine lv_iconst (v := nI 0) hx hb dL_undo_1 (by decide) ?_
  refine lv_aload_n hx hb dL_undo_2 rfl (lv_at hl 0 rfl) ?_
  refine x_cVI2 (As := []) hC cw_L_74 (tailI segsC.length) 1 0 M hK hZ hw hl.1 tailI_get tailI_nd hs0 rfl rfl ⟨Nat.le_refl _, Nat.le_refl _⟩ ⟨Nat.zero_le _, Nat.zero_le _⟩ rfl rfl (Nat.le_of_ble_eq_true rfl) dL_undo_3 (fun r sg hp ha H locs hw => ?_)
  rw [xPut_tail ha] at hw
  refine lv_i2l (v := r.toInt64) hx hb dL_undo_6 rfl ?_
  refine x_last M hK hw 0 0 rfl rfl (by decide) (by decide) dL_undo_7 (fun H locs hw => ?_)
  refine lv_goto (tgt := 14) hx hb dL_undo_8 (by decide) ?_
  refine lv_iconst (v := nI 0) hx hb dL_undo_14 (by decide) ?_
  exact hret _ _ _ (nI 0) _ _ 0 0 (by decide) (by decide) dL_undo_15 hw (by show _ :: sg.map ads = _ :: segsC.map ads; rw [ha]; rfl) ⟨rfl, r, sg, hp, rfl⟩
set_option maxHeartbeats 1000000 in
theorem lt_undo_1 (l : Launch) (G : va_G) (Y : Nat → Nat) (xo ot : Nat)  (f : Nat → Int64) (fs : List Value) (segsC : List va_W) {fr lo : Nat} (hC : CtT l yX5_undo cX5_undo 1 (some .int) fr lo [.ref xo] segsC eISE G Y) (hs0 : segsC[0]? = some [(xo, .inr (4, fs))]) : CtL l yL_undo cL_undo 3 [(0, 8, 11, 15)] (fr + 1) (8 + (1 + 11) + lo) [.ref xo, .ref ot] (outS Y ot f :: segsC) (fun k sg => k = nI 1 ∧ sg = outS Y ot f :: segsC) G Y := by
  refine x_ofL (by decide) (Nat.le_of_ble_eq_true rfl) (fun p e s m args below meth c A ls Q M hK hZ hN hw hl htab hret => ?_)
  obtain ⟨hx, hb, -⟩ := id M
  have hl : lv_has ls 3 [(0, .ref xo), (1, .ref ot)] := hl
  refine lv_aload_n hx hb dL_undo_0 rfl (lv_at hl 1 rfl) ?_
  refine lv_iconst (v := nI 0) hx hb dL_undo_1 (by decide) ?_
  refine lv_aload_n hx hb dL_undo_2 rfl (lv_at hl 0 rfl) ?_
  refine x_catchV (As := []) (ri := 1) (rj := 0) (pre := []) (xh := { startPc := 0, endPc := 8, handlerPc := 11, catchType := 15 }) (suf := []) hC cw_L_74 (tailI segsC.length) M hK hZ hw hl.1 tailI_get tailI_nd hs0 rfl rfl ⟨Nat.le_refl _, Nat.le_refl _⟩ ⟨Nat.le_refl _, Nat.le_refl _⟩ rfl rfl (Nat.le_of_ble_eq_true rfl) dL_undo_3 (htab.trans rfl) (fun z hz => nomatch hz) (by decide) (by decide) mw_442 (cast_self (M.2.2.2.2 _ mw_522)) (fun q H locs hw => ?_)
  refine lv_astore_n (lv' := [(2, .ref q), (0, .ref xo), (1, .ref ot)]) hx hb dL_undo_11 rfl hl (by decide) rfl (fun ls hl => ?_)
  refine lv_iconst (v := nI 1) hx hb dL_undo_12 (by decide) ?_
  exact hret _ _ _ (nI 1) _ _ 1 6 (by decide) (by decide) dL_undo_13 hw rfl ⟨rfl, rfl⟩
set_option maxHeartbeats 1000000 in
theorem lk_gets (l : Launch) (G : va_G) (Y : Nat → Nat) (xo ot : Nat) (c1 : Int32) (f : Nat → Int64) (fs : List Value) (segsC : List va_W) {post : Int32 → List va_W → Prop} {fr lo : Nat} (hC : CtI l yX5_gets cX5_gets 2 .int fr lo [.ref xo, .int c1] segsC post G Y) (hs0 : segsC[0]? = some [(xo, .inr (4, fs))]) : CtL l yL_gets cL_gets 4 [(0, 9, 12, 28)] (fr + 1) (8 + (2 + 11) + lo) [.ref xo, .int c1, .ref ot] (outS Y ot f :: segsC) (fun k sg => k = nI 0 ∧ ∃ r sg1, post r sg1 ∧ sg = outS Y ot (vp_updL f 0 r.toInt64) :: sg1) G Y := by
  refine x_ofL (by decide) (Nat.le_of_ble_eq_true rfl) (fun p e s m args below meth c A ls Q M hK hZ hN hw hl htab hret => ?_)
  obtain ⟨hx, hb, -⟩ := id M
  have hl : lv_has ls 4 [(0, .ref xo), (1, .int c1), (2, .ref ot)] := hl
  refine lv_aload_n hx hb dL_gets_0 rfl (lv_at hl 2 rfl) ?_
  refine lv_iconst (v := nI 0) hx hb dL_gets_1 (by decide) ?_
  refine lv_aload_n hx hb dL_gets_2 rfl (lv_at hl 0 rfl) ?_
  refine lv_iload_n hx hb dL_gets_3 rfl (lv_at hl 1 rfl) ?_
  refine x_cVI2 (As := [.int c1]) hC cw_L_77 (tailI segsC.length) 1 0 M hK hZ hw hl.1 tailI_get tailI_nd hs0 rfl rfl ⟨Nat.le_refl _, Nat.le_refl _⟩ ⟨Nat.zero_le _, Nat.zero_le _⟩ rfl rfl (Nat.le_of_ble_eq_true rfl) dL_gets_4 (fun r sg hp ha H locs hw => ?_)
  rw [xPut_tail ha] at hw
  refine lv_i2l (v := r.toInt64) hx hb dL_gets_7 rfl ?_
  refine x_last M hK hw 0 0 rfl rfl (by decide) (by decide) dL_gets_8 (fun H locs hw => ?_)
  refine lv_goto (tgt := 15) hx hb dL_gets_9 (by decide) ?_
  refine lv_iconst (v := nI 0) hx hb dL_gets_15 (by decide) ?_
  exact hret _ _ _ (nI 0) _ _ 0 0 (by decide) (by decide) dL_gets_16 hw (by show _ :: sg.map ads = _ :: segsC.map ads; rw [ha]; rfl) ⟨rfl, r, sg, hp, rfl⟩
set_option maxHeartbeats 1000000 in
theorem lt_gets_1 (l : Launch) (G : va_G) (Y : Nat → Nat) (xo ot : Nat) (c1 : Int32) (f : Nat → Int64) (fs : List Value) (segsC : List va_W) {fr lo : Nat} (hC : CtT l yX5_gets cX5_gets 2 (some .int) fr lo [.ref xo, .int c1] segsC eIOB G Y) (hs0 : segsC[0]? = some [(xo, .inr (4, fs))]) : CtL l yL_gets cL_gets 4 [(0, 9, 12, 28)] (fr + 1) (8 + (2 + 11) + lo) [.ref xo, .int c1, .ref ot] (outS Y ot f :: segsC) (fun k sg => k = nI 1 ∧ sg = outS Y ot f :: segsC) G Y := by
  refine x_ofL (by decide) (Nat.le_of_ble_eq_true rfl) (fun p e s m args below meth c A ls Q M hK hZ hN hw hl htab hret => ?_)
  obtain ⟨hx, hb, -⟩ := id M
  have hl : lv_has ls 4 [(0, .ref xo), (1, .int c1), (2, .ref ot)] := hl
  refine lv_aload_n hx hb dL_gets_0 rfl (lv_at hl 2 rfl) ?_
  refine lv_iconst (v := nI 0) hx hb dL_gets_1 (by decide) ?_
  refine lv_aload_n hx hb dL_gets_2 rfl (lv_at hl 0 rfl) ?_
  refine lv_iload_n hx hb dL_gets_3 rfl (lv_at hl 1 rfl) ?_
  refine x_catchV (As := [.int c1]) (ri := 1) (rj := 0) (pre := []) (xh := { startPc := 0, endPc := 9, handlerPc := 12, catchType := 28 }) (suf := []) hC cw_L_77 (tailI segsC.length) M hK hZ hw hl.1 tailI_get tailI_nd hs0 rfl rfl ⟨Nat.le_refl _, Nat.le_refl _⟩ ⟨Nat.le_refl _, Nat.le_refl _⟩ rfl rfl (Nat.le_of_ble_eq_true rfl) dL_gets_4 (htab.trans rfl) (fun z hz => nomatch hz) (by decide) (by decide) mw_655 (cast_self (M.2.2.2.2 _ mw_666)) (fun q H locs hw => ?_)
  refine lv_astore_n (lv' := [(3, .ref q), (0, .ref xo), (1, .int c1), (2, .ref ot)]) hx hb dL_gets_12 rfl hl (by decide) rfl (fun ls hl => ?_)
  refine lv_iconst (v := nI 1) hx hb dL_gets_13 (by decide) ?_
  exact hret _ _ _ (nI 1) _ _ 1 6 (by decide) (by decide) dL_gets_14 hw rfl ⟨rfl, rfl⟩
set_option maxHeartbeats 1000000 in
theorem lk_pays (l : Launch) (G : va_G) (Y : Nat → Nat) (xo ot : Nat) (c1 : Int32) (f : Nat → Int64) (fs : List Value) (segsC : List va_W) {post : Int32 → List va_W → Prop} {fr lo : Nat} (hC : CtI l yX5_pays cX5_pays 5 .int fr lo [.ref xo, .int c1] segsC post G Y) (hs0 : segsC[0]? = some [(xo, .inr (4, fs))]) : CtL l yL_pays cL_pays 4 [(0, 9, 12, 28)] (fr + 1) (8 + (5 + 11) + lo) [.ref xo, .int c1, .ref ot] (outS Y ot f :: segsC) (fun k sg => k = nI 0 ∧ ∃ r sg1, post r sg1 ∧ sg = outS Y ot (vp_updL f 0 r.toInt64) :: sg1) G Y := by
  refine x_ofL (by decide) (Nat.le_of_ble_eq_true rfl) (fun p e s m args below meth c A ls Q M hK hZ hN hw hl htab hret => ?_)
  obtain ⟨hx, hb, -⟩ := id M
  have hl : lv_has ls 4 [(0, .ref xo), (1, .int c1), (2, .ref ot)] := hl
  refine lv_aload_n hx hb dL_pays_0 rfl (lv_at hl 2 rfl) ?_
  refine lv_iconst (v := nI 0) hx hb dL_pays_1 (by decide) ?_
  refine lv_aload_n hx hb dL_pays_2 rfl (lv_at hl 0 rfl) ?_
  refine lv_iload_n hx hb dL_pays_3 rfl (lv_at hl 1 rfl) ?_
  refine x_cVI2 (As := [.int c1]) hC cw_L_80 (tailI segsC.length) 1 0 M hK hZ hw hl.1 tailI_get tailI_nd hs0 rfl rfl ⟨Nat.le_refl _, Nat.le_refl _⟩ ⟨Nat.zero_le _, Nat.zero_le _⟩ rfl rfl (Nat.le_of_ble_eq_true rfl) dL_pays_4 (fun r sg hp ha H locs hw => ?_)
  rw [xPut_tail ha] at hw
  refine lv_i2l (v := r.toInt64) hx hb dL_pays_7 rfl ?_
  refine x_last M hK hw 0 0 rfl rfl (by decide) (by decide) dL_pays_8 (fun H locs hw => ?_)
  refine lv_goto (tgt := 15) hx hb dL_pays_9 (by decide) ?_
  refine lv_iconst (v := nI 0) hx hb dL_pays_15 (by decide) ?_
  exact hret _ _ _ (nI 0) _ _ 0 0 (by decide) (by decide) dL_pays_16 hw (by show _ :: sg.map ads = _ :: segsC.map ads; rw [ha]; rfl) ⟨rfl, r, sg, hp, rfl⟩
set_option maxHeartbeats 1000000 in
theorem lt_pays_1 (l : Launch) (G : va_G) (Y : Nat → Nat) (xo ot : Nat) (c1 : Int32) (f : Nat → Int64) (fs : List Value) (segsC : List va_W) {fr lo : Nat} (hC : CtT l yX5_pays cX5_pays 5 (some .int) fr lo [.ref xo, .int c1] segsC eIOB G Y) (hs0 : segsC[0]? = some [(xo, .inr (4, fs))]) : CtL l yL_pays cL_pays 4 [(0, 9, 12, 28)] (fr + 1) (8 + (5 + 11) + lo) [.ref xo, .int c1, .ref ot] (outS Y ot f :: segsC) (fun k sg => k = nI 1 ∧ sg = outS Y ot f :: segsC) G Y := by
  refine x_ofL (by decide) (Nat.le_of_ble_eq_true rfl) (fun p e s m args below meth c A ls Q M hK hZ hN hw hl htab hret => ?_)
  obtain ⟨hx, hb, -⟩ := id M
  have hl : lv_has ls 4 [(0, .ref xo), (1, .int c1), (2, .ref ot)] := hl
  refine lv_aload_n hx hb dL_pays_0 rfl (lv_at hl 2 rfl) ?_
  refine lv_iconst (v := nI 0) hx hb dL_pays_1 (by decide) ?_
  refine lv_aload_n hx hb dL_pays_2 rfl (lv_at hl 0 rfl) ?_
  refine lv_iload_n hx hb dL_pays_3 rfl (lv_at hl 1 rfl) ?_
  refine x_catchV (As := [.int c1]) (ri := 1) (rj := 0) (pre := []) (xh := { startPc := 0, endPc := 9, handlerPc := 12, catchType := 28 }) (suf := []) hC cw_L_80 (tailI segsC.length) M hK hZ hw hl.1 tailI_get tailI_nd hs0 rfl rfl ⟨Nat.le_refl _, Nat.le_refl _⟩ ⟨Nat.le_refl _, Nat.le_refl _⟩ rfl rfl (Nat.le_of_ble_eq_true rfl) dL_pays_4 (htab.trans rfl) (fun z hz => nomatch hz) (by decide) (by decide) mw_655 (cast_self (M.2.2.2.2 _ mw_666)) (fun q H locs hw => ?_)
  refine lv_astore_n (lv' := [(3, .ref q), (0, .ref xo), (1, .int c1), (2, .ref ot)]) hx hb dL_pays_12 rfl hl (by decide) rfl (fun ls hl => ?_)
  refine lv_iconst (v := nI 1) hx hb dL_pays_13 (by decide) ?_
  exact hret _ _ _ (nI 1) _ _ 1 6 (by decide) (by decide) dL_pays_14 hw rfl ⟨rfl, rfl⟩
set_option maxHeartbeats 1000000 in
theorem lk_oneMore (l : Launch) (G : va_G) (Y : Nat → Nat) (xo ot : Nat) (c1 : Int32) (f : Nat → Int64) (fs : List Value) (segsC : List va_W) {post : Int32 → List va_W → Prop} {fr lo : Nat} (hC : CtI l yX5_oneMore cX5_oneMore 3 .int fr lo [.ref xo, .int c1] segsC post G Y) (hs0 : segsC[0]? = some [(xo, .inr (4, fs))]) : CtL l yL_oneMore cL_oneMore 4 [(0, 9, 12, 28)] (fr + 1) (8 + (3 + 11) + lo) [.ref xo, .int c1, .ref ot] (outS Y ot f :: segsC) (fun k sg => k = nI 0 ∧ ∃ r sg1, post r sg1 ∧ sg = outS Y ot (vp_updL f 0 r.toInt64) :: sg1) G Y := by
  refine x_ofL (by decide) (Nat.le_of_ble_eq_true rfl) (fun p e s m args below meth c A ls Q M hK hZ hN hw hl htab hret => ?_)
  obtain ⟨hx, hb, -⟩ := id M
  have hl : lv_has ls 4 [(0, .ref xo), (1, .int c1), (2, .ref ot)] := hl
  refine lv_aload_n hx hb dL_oneMore_0 rfl (lv_at hl 2 rfl) ?_
  refine lv_iconst (v := nI 0) hx hb dL_oneMore_1 (by decide) ?_
  refine lv_aload_n hx hb dL_oneMore_2 rfl (lv_at hl 0 rfl) ?_
  refine lv_iload_n hx hb dL_oneMore_3 rfl (lv_at hl 1 rfl) ?_
  refine x_cVI2 (As := [.int c1]) hC cw_L_83 (tailI segsC.length) 1 0 M hK hZ hw hl.1 tailI_get tailI_nd hs0 rfl rfl ⟨Nat.le_refl _, Nat.le_refl _⟩ ⟨Nat.zero_le _, Nat.zero_le _⟩ rfl rfl (Nat.le_of_ble_eq_true rfl) dL_oneMore_4 (fun r sg hp ha H locs hw => ?_)
  rw [xPut_tail ha] at hw
  refine lv_i2l (v := r.toInt64) hx hb dL_oneMore_7 rfl ?_
  refine x_last M hK hw 0 0 rfl rfl (by decide) (by decide) dL_oneMore_8 (fun H locs hw => ?_)
  refine lv_goto (tgt := 15) hx hb dL_oneMore_9 (by decide) ?_
  refine lv_iconst (v := nI 0) hx hb dL_oneMore_15 (by decide) ?_
  exact hret _ _ _ (nI 0) _ _ 0 0 (by decide) (by decide) dL_oneMore_16 hw (by show _ :: sg.map ads = _ :: segsC.map ads; rw [ha]; rfl) ⟨rfl, r, sg, hp, rfl⟩
set_option maxHeartbeats 1000000 in
theorem lt_oneMore_1 (l : Launch) (G : va_G) (Y : Nat → Nat) (xo ot : Nat) (c1 : Int32) (f : Nat → Int64) (fs : List Value) (segsC : List va_W) {fr lo : Nat} (hC : CtT l yX5_oneMore cX5_oneMore 3 (some .int) fr lo [.ref xo, .int c1] segsC eIOB G Y) (hs0 : segsC[0]? = some [(xo, .inr (4, fs))]) : CtL l yL_oneMore cL_oneMore 4 [(0, 9, 12, 28)] (fr + 1) (8 + (3 + 11) + lo) [.ref xo, .int c1, .ref ot] (outS Y ot f :: segsC) (fun k sg => k = nI 1 ∧ sg = outS Y ot f :: segsC) G Y := by
  refine x_ofL (by decide) (Nat.le_of_ble_eq_true rfl) (fun p e s m args below meth c A ls Q M hK hZ hN hw hl htab hret => ?_)
  obtain ⟨hx, hb, -⟩ := id M
  have hl : lv_has ls 4 [(0, .ref xo), (1, .int c1), (2, .ref ot)] := hl
  refine lv_aload_n hx hb dL_oneMore_0 rfl (lv_at hl 2 rfl) ?_
  refine lv_iconst (v := nI 0) hx hb dL_oneMore_1 (by decide) ?_
  refine lv_aload_n hx hb dL_oneMore_2 rfl (lv_at hl 0 rfl) ?_
  refine lv_iload_n hx hb dL_oneMore_3 rfl (lv_at hl 1 rfl) ?_
  refine x_catchV (As := [.int c1]) (ri := 1) (rj := 0) (pre := []) (xh := { startPc := 0, endPc := 9, handlerPc := 12, catchType := 28 }) (suf := []) hC cw_L_83 (tailI segsC.length) M hK hZ hw hl.1 tailI_get tailI_nd hs0 rfl rfl ⟨Nat.le_refl _, Nat.le_refl _⟩ ⟨Nat.le_refl _, Nat.le_refl _⟩ rfl rfl (Nat.le_of_ble_eq_true rfl) dL_oneMore_4 (htab.trans rfl) (fun z hz => nomatch hz) (by decide) (by decide) mw_655 (cast_self (M.2.2.2.2 _ mw_666)) (fun q H locs hw => ?_)
  refine lv_astore_n (lv' := [(3, .ref q), (0, .ref xo), (1, .int c1), (2, .ref ot)]) hx hb dL_oneMore_12 rfl hl (by decide) rfl (fun ls hl => ?_)
  refine lv_iconst (v := nI 1) hx hb dL_oneMore_13 (by decide) ?_
  exact hret _ _ _ (nI 1) _ _ 1 6 (by decide) (by decide) dL_oneMore_14 hw rfl ⟨rfl, rfl⟩
set_option maxHeartbeats 1000000 in
theorem lk_wouldAsk (l : Launch) (G : va_G) (Y : Nat → Nat) (xo ot : Nat) (c1 : Int32) (c2 : Int32) (f : Nat → Int64) (fs : List Value) (segsC : List va_W) {post : Int32 → List va_W → Prop} {fr lo : Nat} (hC : CtI l yX5_wouldAsk cX5_wouldAsk 3 .int fr lo [.ref xo, .int c1, .int c2] segsC post G Y) (hs0 : segsC[0]? = some [(xo, .inr (4, fs))]) : CtL l yL_wouldAsk cL_wouldAsk 5 [(0, 10, 13, 28)] (fr + 1) (8 + (3 + 11) + lo) [.ref xo, .int c1, .int c2, .ref ot] (outS Y ot f :: segsC) (fun k sg => k = nI 0 ∧ ∃ r sg1, post r sg1 ∧ sg = outS Y ot (vp_updL f 0 r.toInt64) :: sg1) G Y := by
  refine x_ofL (by decide) (Nat.le_of_ble_eq_true rfl) (fun p e s m args below meth c A ls Q M hK hZ hN hw hl htab hret => ?_)
  obtain ⟨hx, hb, -⟩ := id M
  have hl : lv_has ls 5 [(0, .ref xo), (1, .int c1), (2, .int c2), (3, .ref ot)] := hl
  refine lv_aload_n hx hb dL_wouldAsk_0 rfl (lv_at hl 3 rfl) ?_
  refine lv_iconst (v := nI 0) hx hb dL_wouldAsk_1 (by decide) ?_
  refine lv_aload_n hx hb dL_wouldAsk_2 rfl (lv_at hl 0 rfl) ?_
  refine lv_iload_n hx hb dL_wouldAsk_3 rfl (lv_at hl 1 rfl) ?_
  refine lv_iload_n hx hb dL_wouldAsk_4 rfl (lv_at hl 2 rfl) ?_
  refine x_cVI2 (As := [.int c1, .int c2]) hC cw_L_86 (tailI segsC.length) 1 0 M hK hZ hw hl.1 tailI_get tailI_nd hs0 rfl rfl ⟨Nat.le_refl _, Nat.le_refl _⟩ ⟨Nat.zero_le _, Nat.zero_le _⟩ rfl rfl (Nat.le_of_ble_eq_true rfl) dL_wouldAsk_5 (fun r sg hp ha H locs hw => ?_)
  rw [xPut_tail ha] at hw
  refine lv_i2l (v := r.toInt64) hx hb dL_wouldAsk_8 rfl ?_
  refine x_last M hK hw 0 0 rfl rfl (by decide) (by decide) dL_wouldAsk_9 (fun H locs hw => ?_)
  refine lv_goto (tgt := 17) hx hb dL_wouldAsk_10 (by decide) ?_
  refine lv_iconst (v := nI 0) hx hb dL_wouldAsk_17 (by decide) ?_
  exact hret _ _ _ (nI 0) _ _ 0 0 (by decide) (by decide) dL_wouldAsk_18 hw (by show _ :: sg.map ads = _ :: segsC.map ads; rw [ha]; rfl) ⟨rfl, r, sg, hp, rfl⟩
set_option maxHeartbeats 1000000 in
theorem lt_wouldAsk_1 (l : Launch) (G : va_G) (Y : Nat → Nat) (xo ot : Nat) (c1 : Int32) (c2 : Int32) (f : Nat → Int64) (fs : List Value) (segsC : List va_W) {fr lo : Nat} (hC : CtT l yX5_wouldAsk cX5_wouldAsk 3 (some .int) fr lo [.ref xo, .int c1, .int c2] segsC eIOB G Y) (hs0 : segsC[0]? = some [(xo, .inr (4, fs))]) : CtL l yL_wouldAsk cL_wouldAsk 5 [(0, 10, 13, 28)] (fr + 1) (8 + (3 + 11) + lo) [.ref xo, .int c1, .int c2, .ref ot] (outS Y ot f :: segsC) (fun k sg => k = nI 1 ∧ sg = outS Y ot f :: segsC) G Y := by
  refine x_ofL (by decide) (Nat.le_of_ble_eq_true rfl) (fun p e s m args below meth c A ls Q M hK hZ hN hw hl htab hret => ?_)
  obtain ⟨hx, hb, -⟩ := id M
  have hl : lv_has ls 5 [(0, .ref xo), (1, .int c1), (2, .int c2), (3, .ref ot)] := hl
  refine lv_aload_n hx hb dL_wouldAsk_0 rfl (lv_at hl 3 rfl) ?_
  refine lv_iconst (v := nI 0) hx hb dL_wouldAsk_1 (by decide) ?_
  refine lv_aload_n hx hb dL_wouldAsk_2 rfl (lv_at hl 0 rfl) ?_
  refine lv_iload_n hx hb dL_wouldAsk_3 rfl (lv_at hl 1 rfl) ?_
  refine lv_iload_n hx hb dL_wouldAsk_4 rfl (lv_at hl 2 rfl) ?_
  refine x_catchV (As := [.int c1, .int c2]) (ri := 1) (rj := 0) (pre := []) (xh := { startPc := 0, endPc := 10, handlerPc := 13, catchType := 28 }) (suf := []) hC cw_L_86 (tailI segsC.length) M hK hZ hw hl.1 tailI_get tailI_nd hs0 rfl rfl ⟨Nat.le_refl _, Nat.le_refl _⟩ ⟨Nat.le_refl _, Nat.le_refl _⟩ rfl rfl (Nat.le_of_ble_eq_true rfl) dL_wouldAsk_5 (htab.trans rfl) (fun z hz => nomatch hz) (by decide) (by decide) mw_655 (cast_self (M.2.2.2.2 _ mw_666)) (fun q H locs hw => ?_)
  refine lv_astore (lv' := [(4, .ref q), (0, .ref xo), (1, .int c1), (2, .int c2), (3, .ref ot)]) hx hb dL_wouldAsk_13 hl (by decide) rfl (fun ls hl => ?_)
  refine lv_iconst (v := nI 1) hx hb dL_wouldAsk_15 (by decide) ?_
  exact hret _ _ _ (nI 1) _ _ 1 6 (by decide) (by decide) dL_wouldAsk_16 hw rfl ⟨rfl, rfl⟩
set_option maxHeartbeats 1000000 in
theorem lk_endPrice (l : Launch) (G : va_G) (Y : Nat → Nat) (xo ot : Nat) (c1 : Int32) (f : Nat → Int64) (fs : List Value) (segsC : List va_W) {post : Int32 → List va_W → Prop} {fr lo : Nat} (hC : CtI l yX5_endPrice cX5_endPrice 2 .int fr lo [.ref xo, .int c1] segsC post G Y) (hs0 : segsC[0]? = some [(xo, .inr (4, fs))]) : CtL l yL_endPrice cL_endPrice 4 [(0, 9, 12, 28)] (fr + 1) (8 + (2 + 11) + lo) [.ref xo, .int c1, .ref ot] (outS Y ot f :: segsC) (fun k sg => k = nI 0 ∧ ∃ r sg1, post r sg1 ∧ sg = outS Y ot (vp_updL f 0 r.toInt64) :: sg1) G Y := by
  refine x_ofL (by decide) (Nat.le_of_ble_eq_true rfl) (fun p e s m args below meth c A ls Q M hK hZ hN hw hl htab hret => ?_)
  obtain ⟨hx, hb, -⟩ := id M
  have hl : lv_has ls 4 [(0, .ref xo), (1, .int c1), (2, .ref ot)] := hl
  refine lv_aload_n hx hb dL_endPrice_0 rfl (lv_at hl 2 rfl) ?_
  refine lv_iconst (v := nI 0) hx hb dL_endPrice_1 (by decide) ?_
  refine lv_aload_n hx hb dL_endPrice_2 rfl (lv_at hl 0 rfl) ?_
  refine lv_iload_n hx hb dL_endPrice_3 rfl (lv_at hl 1 rfl) ?_
  refine x_cVI2 (As := [.int c1]) hC cw_L_89 (tailI segsC.length) 1 0 M hK hZ hw hl.1 tailI_get tailI_nd hs0 rfl rfl ⟨Nat.le_refl _, Nat.le_refl _⟩ ⟨Nat.zero_le _, Nat.zero_le _⟩ rfl rfl (Nat.le_of_ble_eq_true rfl) dL_endPrice_4 (fun r sg hp ha H locs hw => ?_)
  rw [xPut_tail ha] at hw
  refine lv_i2l (v := r.toInt64) hx hb dL_endPrice_7 rfl ?_
  refine x_last M hK hw 0 0 rfl rfl (by decide) (by decide) dL_endPrice_8 (fun H locs hw => ?_)
  refine lv_goto (tgt := 15) hx hb dL_endPrice_9 (by decide) ?_
  refine lv_iconst (v := nI 0) hx hb dL_endPrice_15 (by decide) ?_
  exact hret _ _ _ (nI 0) _ _ 0 0 (by decide) (by decide) dL_endPrice_16 hw (by show _ :: sg.map ads = _ :: segsC.map ads; rw [ha]; rfl) ⟨rfl, r, sg, hp, rfl⟩
set_option maxHeartbeats 1000000 in
theorem lt_endPrice_1 (l : Launch) (G : va_G) (Y : Nat → Nat) (xo ot : Nat) (c1 : Int32) (f : Nat → Int64) (fs : List Value) (segsC : List va_W) {fr lo : Nat} (hC : CtT l yX5_endPrice cX5_endPrice 2 (some .int) fr lo [.ref xo, .int c1] segsC eIOB G Y) (hs0 : segsC[0]? = some [(xo, .inr (4, fs))]) : CtL l yL_endPrice cL_endPrice 4 [(0, 9, 12, 28)] (fr + 1) (8 + (2 + 11) + lo) [.ref xo, .int c1, .ref ot] (outS Y ot f :: segsC) (fun k sg => k = nI 1 ∧ sg = outS Y ot f :: segsC) G Y := by
  refine x_ofL (by decide) (Nat.le_of_ble_eq_true rfl) (fun p e s m args below meth c A ls Q M hK hZ hN hw hl htab hret => ?_)
  obtain ⟨hx, hb, -⟩ := id M
  have hl : lv_has ls 4 [(0, .ref xo), (1, .int c1), (2, .ref ot)] := hl
  refine lv_aload_n hx hb dL_endPrice_0 rfl (lv_at hl 2 rfl) ?_
  refine lv_iconst (v := nI 0) hx hb dL_endPrice_1 (by decide) ?_
  refine lv_aload_n hx hb dL_endPrice_2 rfl (lv_at hl 0 rfl) ?_
  refine lv_iload_n hx hb dL_endPrice_3 rfl (lv_at hl 1 rfl) ?_
  refine x_catchV (As := [.int c1]) (ri := 1) (rj := 0) (pre := []) (xh := { startPc := 0, endPc := 9, handlerPc := 12, catchType := 28 }) (suf := []) hC cw_L_89 (tailI segsC.length) M hK hZ hw hl.1 tailI_get tailI_nd hs0 rfl rfl ⟨Nat.le_refl _, Nat.le_refl _⟩ ⟨Nat.le_refl _, Nat.le_refl _⟩ rfl rfl (Nat.le_of_ble_eq_true rfl) dL_endPrice_4 (htab.trans rfl) (fun z hz => nomatch hz) (by decide) (by decide) mw_655 (cast_self (M.2.2.2.2 _ mw_666)) (fun q H locs hw => ?_)
  refine lv_astore_n (lv' := [(3, .ref q), (0, .ref xo), (1, .int c1), (2, .ref ot)]) hx hb dL_endPrice_12 rfl hl (by decide) rfl (fun ls hl => ?_)
  refine lv_iconst (v := nI 1) hx hb dL_endPrice_13 (by decide) ?_
  exact hret _ _ _ (nI 1) _ _ 1 6 (by decide) (by decide) dL_endPrice_14 hw rfl ⟨rfl, rfl⟩
set_option maxHeartbeats 1000000 in
theorem lk_runScript (l : Launch) (G : va_G) (Y : Nat → Nat) (xo ot : Nat) (c1 : Int32) (c2 : Int64) (f : Nat → Int64) (fs : List Value) (segsC : List va_W) {post : Int32 → List va_W → Prop} {fr lo : Nat} (hC : CtI l yX5_runScript cX5_runScript 7 .int fr lo [.ref xo, .int c1, .long c2] segsC post G Y) (hs0 : segsC[0]? = some [(xo, .inr (4, fs))]) : CtL l yL_runScript cL_runScript 6 [(0, 11, 14, 13)] (fr + 1) (8 + (7 + 11) + lo) [.ref xo, .int c1, .long c2, .ref ot] (outS Y ot f :: segsC) (fun k sg => k = nI 0 ∧ ∃ r sg1, post r sg1 ∧ sg = outS Y ot (vp_updL f 0 r.toInt64) :: sg1) G Y := by
  refine x_ofL (by decide) (Nat.le_of_ble_eq_true rfl) (fun p e s m args below meth c A ls Q M hK hZ hN hw hl htab hret => ?_)
  obtain ⟨hx, hb, -⟩ := id M
  have hl : lv_has ls 6 [(0, .ref xo), (1, .int c1), (2, .long c2), (4, .ref ot)] := hl
  refine lv_aload hx hb dL_runScript_0 (lv_at hl 3 rfl) ?_
  refine lv_iconst (v := nI 0) hx hb dL_runScript_2 (by decide) ?_
  refine lv_aload_n hx hb dL_runScript_3 rfl (lv_at hl 0 rfl) ?_
  refine lv_iload_n hx hb dL_runScript_4 rfl (lv_at hl 1 rfl) ?_
  refine lv_lload_n hx hb dL_runScript_5 rfl (lv_at hl 2 rfl) ?_
  refine x_cVI2 (As := [.int c1, .long c2]) hC cw_L_92 (tailI segsC.length) 1 0 M hK hZ hw hl.1 tailI_get tailI_nd hs0 rfl rfl ⟨Nat.le_refl _, Nat.le_refl _⟩ ⟨Nat.zero_le _, Nat.zero_le _⟩ rfl rfl (Nat.le_of_ble_eq_true rfl) dL_runScript_6 (fun r sg hp ha H locs hw => ?_)
  rw [xPut_tail ha] at hw
  refine lv_i2l (v := r.toInt64) hx hb dL_runScript_9 rfl ?_
  refine x_last M hK hw 0 0 rfl rfl (by decide) (by decide) dL_runScript_10 (fun H locs hw => ?_)
  refine lv_goto (tgt := 18) hx hb dL_runScript_11 (by decide) ?_
  refine lv_iconst (v := nI 0) hx hb dL_runScript_18 (by decide) ?_
  exact hret _ _ _ (nI 0) _ _ 0 0 (by decide) (by decide) dL_runScript_19 hw (by show _ :: sg.map ads = _ :: segsC.map ads; rw [ha]; rfl) ⟨rfl, r, sg, hp, rfl⟩
set_option maxHeartbeats 1000000 in
theorem lt_runScript_1 (l : Launch) (G : va_G) (Y : Nat → Nat) (xo ot : Nat) (c1 : Int32) (c2 : Int64) (f : Nat → Int64) (fs : List Value) (segsC : List va_W) {fr lo : Nat} (hC : CtT l yX5_runScript cX5_runScript 7 (some .int) fr lo [.ref xo, .int c1, .long c2] segsC eIAE G Y) (hs0 : segsC[0]? = some [(xo, .inr (4, fs))]) : CtL l yL_runScript cL_runScript 6 [(0, 11, 14, 13)] (fr + 1) (8 + (7 + 11) + lo) [.ref xo, .int c1, .long c2, .ref ot] (outS Y ot f :: segsC) (fun k sg => k = nI 1 ∧ sg = outS Y ot f :: segsC) G Y := by
  refine x_ofL (by decide) (Nat.le_of_ble_eq_true rfl) (fun p e s m args below meth c A ls Q M hK hZ hN hw hl htab hret => ?_)
  obtain ⟨hx, hb, -⟩ := id M
  have hl : lv_has ls 6 [(0, .ref xo), (1, .int c1), (2, .long c2), (4, .ref ot)] := hl
  refine lv_aload hx hb dL_runScript_0 (lv_at hl 3 rfl) ?_
  refine lv_iconst (v := nI 0) hx hb dL_runScript_2 (by decide) ?_
  refine lv_aload_n hx hb dL_runScript_3 rfl (lv_at hl 0 rfl) ?_
  refine lv_iload_n hx hb dL_runScript_4 rfl (lv_at hl 1 rfl) ?_
  refine lv_lload_n hx hb dL_runScript_5 rfl (lv_at hl 2 rfl) ?_
  refine x_catchV (As := [.int c1, .long c2]) (ri := 1) (rj := 0) (pre := []) (xh := { startPc := 0, endPc := 11, handlerPc := 14, catchType := 13 }) (suf := []) hC cw_L_92 (tailI segsC.length) M hK hZ hw hl.1 tailI_get tailI_nd hs0 rfl rfl ⟨Nat.le_refl _, Nat.le_refl _⟩ ⟨Nat.le_refl _, Nat.le_refl _⟩ rfl rfl (Nat.le_of_ble_eq_true rfl) dL_runScript_6 (htab.trans rfl) (fun z hz => nomatch hz) (by decide) (by decide) mw_441 (cast_self (M.2.2.2.2 _ mw_451)) (fun q H locs hw => ?_)
  refine lv_astore (lv' := [(5, .ref q), (0, .ref xo), (1, .int c1), (2, .long c2), (4, .ref ot)]) hx hb dL_runScript_14 hl (by decide) rfl (fun ls hl => ?_)
  refine lv_iconst (v := nI 1) hx hb dL_runScript_16 (by decide) ?_
  exact hret _ _ _ (nI 1) _ _ 1 6 (by decide) (by decide) dL_runScript_17 hw rfl ⟨rfl, rfl⟩
set_option maxHeartbeats 1000000 in
theorem lk_simulate (l : Launch) (G : va_G) (Y : Nat → Nat) (xo ot : Nat) (c1 : Int64) (c2 : Int32) (f : Nat → Int64) (fs : List Value) (segsC : List va_W) {post : Int32 → List va_W → Prop} {fr lo : Nat} (hC : CtI l yX5_simulate cX5_simulate 7 .int fr lo [.ref xo, .long c1, .int c2] segsC post G Y) (hs0 : segsC[0]? = some [(xo, .inr (4, fs))]) : CtL l yL_simulate cL_simulate 6 [(0, 11, 14, 13)] (fr + 1) (8 + (7 + 11) + lo) [.ref xo, .long c1, .int c2, .ref ot] (outS Y ot f :: segsC) (fun k sg => k = nI 0 ∧ ∃ r sg1, post r sg1 ∧ sg = outS Y ot (vp_updL f 0 r.toInt64) :: sg1) G Y := by
  refine x_ofL (by decide) (Nat.le_of_ble_eq_true rfl) (fun p e s m args below meth c A ls Q M hK hZ hN hw hl htab hret => ?_)
  obtain ⟨hx, hb, -⟩ := id M
  have hl : lv_has ls 6 [(0, .ref xo), (1, .long c1), (3, .int c2), (4, .ref ot)] := hl
  refine lv_aload hx hb dL_simulate_0 (lv_at hl 3 rfl) ?_
  refine lv_iconst (v := nI 0) hx hb dL_simulate_2 (by decide) ?_
  refine lv_aload_n hx hb dL_simulate_3 rfl (lv_at hl 0 rfl) ?_
  refine lv_lload_n hx hb dL_simulate_4 rfl (lv_at hl 1 rfl) ?_
  refine lv_iload_n hx hb dL_simulate_5 rfl (lv_at hl 2 rfl) ?_
  refine x_cVI2 (As := [.long c1, .int c2]) hC cw_L_96 (tailI segsC.length) 1 0 M hK hZ hw hl.1 tailI_get tailI_nd hs0 rfl rfl ⟨Nat.le_refl _, Nat.le_refl _⟩ ⟨Nat.zero_le _, Nat.zero_le _⟩ rfl rfl (Nat.le_of_ble_eq_true rfl) dL_simulate_6 (fun r sg hp ha H locs hw => ?_)
  rw [xPut_tail ha] at hw
  refine lv_i2l (v := r.toInt64) hx hb dL_simulate_9 rfl ?_
  refine x_last M hK hw 0 0 rfl rfl (by decide) (by decide) dL_simulate_10 (fun H locs hw => ?_)
  refine lv_goto (tgt := 18) hx hb dL_simulate_11 (by decide) ?_
  refine lv_iconst (v := nI 0) hx hb dL_simulate_18 (by decide) ?_
  exact hret _ _ _ (nI 0) _ _ 0 0 (by decide) (by decide) dL_simulate_19 hw (by show _ :: sg.map ads = _ :: segsC.map ads; rw [ha]; rfl) ⟨rfl, r, sg, hp, rfl⟩
set_option maxHeartbeats 1000000 in
theorem lt_simulate_1 (l : Launch) (G : va_G) (Y : Nat → Nat) (xo ot : Nat) (c1 : Int64) (c2 : Int32) (f : Nat → Int64) (fs : List Value) (segsC : List va_W) {fr lo : Nat} (hC : CtT l yX5_simulate cX5_simulate 7 (some .int) fr lo [.ref xo, .long c1, .int c2] segsC eIAE G Y) (hs0 : segsC[0]? = some [(xo, .inr (4, fs))]) : CtL l yL_simulate cL_simulate 6 [(0, 11, 14, 13)] (fr + 1) (8 + (7 + 11) + lo) [.ref xo, .long c1, .int c2, .ref ot] (outS Y ot f :: segsC) (fun k sg => k = nI 1 ∧ sg = outS Y ot f :: segsC) G Y := by
  refine x_ofL (by decide) (Nat.le_of_ble_eq_true rfl) (fun p e s m args below meth c A ls Q M hK hZ hN hw hl htab hret => ?_)
  obtain ⟨hx, hb, -⟩ := id M
  have hl : lv_has ls 6 [(0, .ref xo), (1, .long c1), (3, .int c2), (4, .ref ot)] := hl
  refine lv_aload hx hb dL_simulate_0 (lv_at hl 3 rfl) ?_
  refine lv_iconst (v := nI 0) hx hb dL_simulate_2 (by decide) ?_
  refine lv_aload_n hx hb dL_simulate_3 rfl (lv_at hl 0 rfl) ?_
  refine lv_lload_n hx hb dL_simulate_4 rfl (lv_at hl 1 rfl) ?_
  refine lv_iload_n hx hb dL_simulate_5 rfl (lv_at hl 2 rfl) ?_
  refine x_catchV (As := [.long c1, .int c2]) (ri := 1) (rj := 0) (pre := []) (xh := { startPc := 0, endPc := 11, handlerPc := 14, catchType := 13 }) (suf := []) hC cw_L_96 (tailI segsC.length) M hK hZ hw hl.1 tailI_get tailI_nd hs0 rfl rfl ⟨Nat.le_refl _, Nat.le_refl _⟩ ⟨Nat.le_refl _, Nat.le_refl _⟩ rfl rfl (Nat.le_of_ble_eq_true rfl) dL_simulate_6 (htab.trans rfl) (fun z hz => nomatch hz) (by decide) (by decide) mw_441 (cast_self (M.2.2.2.2 _ mw_451)) (fun q H locs hw => ?_)
  refine lv_astore (lv' := [(5, .ref q), (0, .ref xo), (1, .long c1), (3, .int c2), (4, .ref ot)]) hx hb dL_simulate_14 hl (by decide) rfl (fun ls hl => ?_)
  refine lv_iconst (v := nI 1) hx hb dL_simulate_16 (by decide) ?_
  exact hret _ _ _ (nI 1) _ _ 1 6 (by decide) (by decide) dL_simulate_17 hw rfl ⟨rfl, rfl⟩
set_option maxHeartbeats 1000000 in
theorem lk_save (l : Launch) (G : va_G) (Y : Nat → Nat) (xo ot : Nat) (c1 : Int32) (f : Nat → Int64) (fs : List Value) (segsC : List va_W) {post : Int32 → List va_W → Prop} {fr lo : Nat} (hC : CtI l yX5_save cX5_save 2 .int fr lo [.ref xo, .int c1] segsC post G Y) (hs0 : segsC[0]? = some [(xo, .inr (4, fs))]) : CtL l yL_save cL_save 4 [(0, 9, 12, 28)] (fr + 1) (8 + (2 + 11) + lo) [.ref xo, .int c1, .ref ot] (outS Y ot f :: segsC) (fun k sg => k = nI 0 ∧ ∃ r sg1, post r sg1 ∧ sg = outS Y ot (vp_updL f 0 r.toInt64) :: sg1) G Y := by
  refine x_ofL (by decide) (Nat.le_of_ble_eq_true rfl) (fun p e s m args below meth c A ls Q M hK hZ hN hw hl htab hret => ?_)
  obtain ⟨hx, hb, -⟩ := id M
  have hl : lv_has ls 4 [(0, .ref xo), (1, .int c1), (2, .ref ot)] := hl
  refine lv_aload_n hx hb dL_save_0 rfl (lv_at hl 2 rfl) ?_
  refine lv_iconst (v := nI 0) hx hb dL_save_1 (by decide) ?_
  refine lv_aload_n hx hb dL_save_2 rfl (lv_at hl 0 rfl) ?_
  refine lv_iload_n hx hb dL_save_3 rfl (lv_at hl 1 rfl) ?_
  refine x_cVI2 (As := [.int c1]) hC cw_L_100 (tailI segsC.length) 1 0 M hK hZ hw hl.1 tailI_get tailI_nd hs0 rfl rfl ⟨Nat.le_refl _, Nat.le_refl _⟩ ⟨Nat.zero_le _, Nat.zero_le _⟩ rfl rfl (Nat.le_of_ble_eq_true rfl) dL_save_4 (fun r sg hp ha H locs hw => ?_)
  rw [xPut_tail ha] at hw
  refine lv_i2l (v := r.toInt64) hx hb dL_save_7 rfl ?_
  refine x_last M hK hw 0 0 rfl rfl (by decide) (by decide) dL_save_8 (fun H locs hw => ?_)
  refine lv_goto (tgt := 15) hx hb dL_save_9 (by decide) ?_
  refine lv_iconst (v := nI 0) hx hb dL_save_15 (by decide) ?_
  exact hret _ _ _ (nI 0) _ _ 0 0 (by decide) (by decide) dL_save_16 hw (by show _ :: sg.map ads = _ :: segsC.map ads; rw [ha]; rfl) ⟨rfl, r, sg, hp, rfl⟩
set_option maxHeartbeats 1000000 in
theorem lt_save_1 (l : Launch) (G : va_G) (Y : Nat → Nat) (xo ot : Nat) (c1 : Int32) (f : Nat → Int64) (fs : List Value) (segsC : List va_W) {fr lo : Nat} (hC : CtT l yX5_save cX5_save 2 (some .int) fr lo [.ref xo, .int c1] segsC eIOB G Y) (hs0 : segsC[0]? = some [(xo, .inr (4, fs))]) : CtL l yL_save cL_save 4 [(0, 9, 12, 28)] (fr + 1) (8 + (2 + 11) + lo) [.ref xo, .int c1, .ref ot] (outS Y ot f :: segsC) (fun k sg => k = nI 1 ∧ sg = outS Y ot f :: segsC) G Y := by
  refine x_ofL (by decide) (Nat.le_of_ble_eq_true rfl) (fun p e s m args below meth c A ls Q M hK hZ hN hw hl htab hret => ?_)
  obtain ⟨hx, hb, -⟩ := id M
  have hl : lv_has ls 4 [(0, .ref xo), (1, .int c1), (2, .ref ot)] := hl
  refine lv_aload_n hx hb dL_save_0 rfl (lv_at hl 2 rfl) ?_
  refine lv_iconst (v := nI 0) hx hb dL_save_1 (by decide) ?_
  refine lv_aload_n hx hb dL_save_2 rfl (lv_at hl 0 rfl) ?_
  refine lv_iload_n hx hb dL_save_3 rfl (lv_at hl 1 rfl) ?_
  refine x_catchV (As := [.int c1]) (ri := 1) (rj := 0) (pre := []) (xh := { startPc := 0, endPc := 9, handlerPc := 12, catchType := 28 }) (suf := []) hC cw_L_100 (tailI segsC.length) M hK hZ hw hl.1 tailI_get tailI_nd hs0 rfl rfl ⟨Nat.le_refl _, Nat.le_refl _⟩ ⟨Nat.le_refl _, Nat.le_refl _⟩ rfl rfl (Nat.le_of_ble_eq_true rfl) dL_save_4 (htab.trans rfl) (fun z hz => nomatch hz) (by decide) (by decide) mw_655 (cast_self (M.2.2.2.2 _ mw_666)) (fun q H locs hw => ?_)
  refine lv_astore_n (lv' := [(3, .ref q), (0, .ref xo), (1, .int c1), (2, .ref ot)]) hx hb dL_save_12 rfl hl (by decide) rfl (fun ls hl => ?_)
  refine lv_iconst (v := nI 1) hx hb dL_save_13 (by decide) ?_
  exact hret _ _ _ (nI 1) _ _ 1 6 (by decide) (by decide) dL_save_14 hw rfl ⟨rfl, rfl⟩
set_option maxHeartbeats 1000000 in
theorem lk_restore (l : Launch) (G : va_G) (Y : Nat → Nat) (xo ot : Nat) (c1 : Int32) (f : Nat → Int64) (fs : List Value) (segsC : List va_W) {post : Int32 → List va_W → Prop} {fr lo : Nat} (hC : CtI l yX5_restore cX5_restore 2 .int fr lo [.ref xo, .int c1] segsC post G Y) (hs0 : segsC[0]? = some [(xo, .inr (4, fs))]) : CtL l yL_restore cL_restore 4 [(0, 9, 12, 28), (0, 9, 15, 15)] (fr + 1) (8 + (2 + 11) + lo) [.ref xo, .int c1, .ref ot] (outS Y ot f :: segsC) (fun k sg => k = nI 0 ∧ ∃ r sg1, post r sg1 ∧ sg = outS Y ot (vp_updL f 0 r.toInt64) :: sg1) G Y := by
  refine x_ofL (by decide) (Nat.le_of_ble_eq_true rfl) (fun p e s m args below meth c A ls Q M hK hZ hN hw hl htab hret => ?_)
  obtain ⟨hx, hb, -⟩ := id M
  have hl : lv_has ls 4 [(0, .ref xo), (1, .int c1), (2, .ref ot)] := hl
  refine lv_aload_n hx hb dL_restore_0 rfl (lv_at hl 2 rfl) ?_
  refine lv_iconst (v := nI 0) hx hb dL_restore_1 (by decide) ?_
  refine lv_aload_n hx hb dL_restore_2 rfl (lv_at hl 0 rfl) ?_
  refine lv_iload_n hx hb dL_restore_3 rfl (lv_at hl 1 rfl) ?_
  refine x_cVI2 (As := [.int c1]) hC cw_L_103 (tailI segsC.length) 1 0 M hK hZ hw hl.1 tailI_get tailI_nd hs0 rfl rfl ⟨Nat.le_refl _, Nat.le_refl _⟩ ⟨Nat.zero_le _, Nat.zero_le _⟩ rfl rfl (Nat.le_of_ble_eq_true rfl) dL_restore_4 (fun r sg hp ha H locs hw => ?_)
  rw [xPut_tail ha] at hw
  refine lv_i2l (v := r.toInt64) hx hb dL_restore_7 rfl ?_
  refine x_last M hK hw 0 0 rfl rfl (by decide) (by decide) dL_restore_8 (fun H locs hw => ?_)
  refine lv_goto (tgt := 18) hx hb dL_restore_9 (by decide) ?_
  refine lv_iconst (v := nI 0) hx hb dL_restore_18 (by decide) ?_
  exact hret _ _ _ (nI 0) _ _ 0 0 (by decide) (by decide) dL_restore_19 hw (by show _ :: sg.map ads = _ :: segsC.map ads; rw [ha]; rfl) ⟨rfl, r, sg, hp, rfl⟩
set_option maxHeartbeats 1000000 in
theorem lt_restore_1 (l : Launch) (G : va_G) (Y : Nat → Nat) (xo ot : Nat) (c1 : Int32) (f : Nat → Int64) (fs : List Value) (segsC : List va_W) {fr lo : Nat} (hC : CtT l yX5_restore cX5_restore 2 (some .int) fr lo [.ref xo, .int c1] segsC eIOB G Y) (hs0 : segsC[0]? = some [(xo, .inr (4, fs))]) : CtL l yL_restore cL_restore 4 [(0, 9, 12, 28), (0, 9, 15, 15)] (fr + 1) (8 + (2 + 11) + lo) [.ref xo, .int c1, .ref ot] (outS Y ot f :: segsC) (fun k sg => k = nI 1 ∧ sg = outS Y ot f :: segsC) G Y := by
  refine x_ofL (by decide) (Nat.le_of_ble_eq_true rfl) (fun p e s m args below meth c A ls Q M hK hZ hN hw hl htab hret => ?_)
  obtain ⟨hx, hb, -⟩ := id M
  have hl : lv_has ls 4 [(0, .ref xo), (1, .int c1), (2, .ref ot)] := hl
  refine lv_aload_n hx hb dL_restore_0 rfl (lv_at hl 2 rfl) ?_
  refine lv_iconst (v := nI 0) hx hb dL_restore_1 (by decide) ?_
  refine lv_aload_n hx hb dL_restore_2 rfl (lv_at hl 0 rfl) ?_
  refine lv_iload_n hx hb dL_restore_3 rfl (lv_at hl 1 rfl) ?_
  refine x_catchV (As := [.int c1]) (ri := 1) (rj := 0) (pre := []) (xh := { startPc := 0, endPc := 9, handlerPc := 12, catchType := 28 }) (suf := [{ startPc := 0, endPc := 9, handlerPc := 15, catchType := 15 }]) hC cw_L_103 (tailI segsC.length) M hK hZ hw hl.1 tailI_get tailI_nd hs0 rfl rfl ⟨Nat.le_refl _, Nat.le_refl _⟩ ⟨Nat.le_refl _, Nat.le_refl _⟩ rfl rfl (Nat.le_of_ble_eq_true rfl) dL_restore_4 (htab.trans rfl) (fun z hz => nomatch hz) (by decide) (by decide) mw_655 (cast_self (M.2.2.2.2 _ mw_666)) (fun q H locs hw => ?_)
  refine lv_astore_n (lv' := [(3, .ref q), (0, .ref xo), (1, .int c1), (2, .ref ot)]) hx hb dL_restore_12 rfl hl (by decide) rfl (fun ls hl => ?_)
  refine lv_iconst (v := nI 1) hx hb dL_restore_13 (by decide) ?_
  exact hret _ _ _ (nI 1) _ _ 1 6 (by decide) (by decide) dL_restore_14 hw rfl ⟨rfl, rfl⟩
set_option maxHeartbeats 1000000 in
theorem lt_restore_2 (l : Launch) (G : va_G) (Y : Nat → Nat) (xo ot : Nat) (c1 : Int32) (f : Nat → Int64) (fs : List Value) (segsC : List va_W) {fr lo : Nat} (hC : CtT l yX5_restore cX5_restore 2 (some .int) fr lo [.ref xo, .int c1] segsC eISE G Y) (hs0 : segsC[0]? = some [(xo, .inr (4, fs))]) : CtL l yL_restore cL_restore 4 [(0, 9, 12, 28), (0, 9, 15, 15)] (fr + 1) (8 + (2 + 11) + lo) [.ref xo, .int c1, .ref ot] (outS Y ot f :: segsC) (fun k sg => k = nI 2 ∧ sg = outS Y ot f :: segsC) G Y := by
  refine x_ofL (by decide) (Nat.le_of_ble_eq_true rfl) (fun p e s m args below meth c A ls Q M hK hZ hN hw hl htab hret => ?_)
  obtain ⟨hx, hb, -⟩ := id M
  have hl : lv_has ls 4 [(0, .ref xo), (1, .int c1), (2, .ref ot)] := hl
  refine lv_aload_n hx hb dL_restore_0 rfl (lv_at hl 2 rfl) ?_
  refine lv_iconst (v := nI 0) hx hb dL_restore_1 (by decide) ?_
  refine lv_aload_n hx hb dL_restore_2 rfl (lv_at hl 0 rfl) ?_
  refine lv_iload_n hx hb dL_restore_3 rfl (lv_at hl 1 rfl) ?_
  refine x_catchV (As := [.int c1]) (ri := 1) (rj := 0) (pre := [{ startPc := 0, endPc := 9, handlerPc := 12, catchType := 28 }]) (xh := { startPc := 0, endPc := 9, handlerPc := 15, catchType := 15 }) (suf := []) hC cw_L_103 (tailI segsC.length) M hK hZ hw hl.1 tailI_get tailI_nd hs0 rfl rfl ⟨Nat.le_refl _, Nat.le_refl _⟩ ⟨Nat.le_refl _, Nat.le_refl _⟩ rfl rfl (Nat.le_of_ble_eq_true rfl) dL_restore_4 (htab.trans rfl) (fun z hz => by obtain rfl := List.mem_singleton.mp hz; exact Or.inr ⟨by decide, _, mw_655, hN.2.1⟩) (by decide) (by decide) mw_442 (cast_self (M.2.2.2.2 _ mw_522)) (fun q H locs hw => ?_)
  refine lv_astore_n (lv' := [(3, .ref q), (0, .ref xo), (1, .int c1), (2, .ref ot)]) hx hb dL_restore_15 rfl hl (by decide) rfl (fun ls hl => ?_)
  refine lv_iconst (v := nI 2) hx hb dL_restore_16 (by decide) ?_
  exact hret _ _ _ (nI 2) _ _ 1 6 (by decide) (by decide) dL_restore_17 hw rfl ⟨rfl, rfl⟩
theorem cl_append : GoodIn wB (va_wsS RL 110 yL_append (.codeWith yL_append cL_append 4 (some .int) [(0, 9, 12, 13), (0, 9, 15, 15)] :: wB)) ∧ yL_append.cls ≠ "java/lang/invoke/MethodHandle" ∧ yL_append.cls ≠ "java/lang/invoke/VarHandle" ∧ (parseMethodDescriptor yL_append.desc).map (fun d => d.parameters.length) = some 3 := xcL_of mw_438 mw_439 mw_0 mw_440 (by decide) (by decide +kernel)
theorem cl_load : GoodIn wB (va_wsS RL 127 yL_load (.codeWith yL_load cL_load 3 (some .int) [(0, 8, 11, 15)] :: wB)) ∧ yL_load.cls ≠ "java/lang/invoke/MethodHandle" ∧ yL_load.cls ≠ "java/lang/invoke/VarHandle" ∧ (parseMethodDescriptor yL_load.desc).map (fun d => d.parameters.length) = some 2 := xcL_of mw_541 mw_542 mw_0 mw_543 (by decide) (by decide +kernel)
theorem cl_about : GoodIn wB (va_wsS RL 131 yL_about (.codeWith yL_about cL_about 4 (some .int) [(0, 9, 12, 13)] :: wB)) ∧ yL_about.cls ≠ "java/lang/invoke/MethodHandle" ∧ yL_about.cls ≠ "java/lang/invoke/VarHandle" ∧ (parseMethodDescriptor yL_about.desc).map (fun d => d.parameters.length) = some 3 := xcL_of mw_632 mw_633 mw_0 mw_634 (by decide) (by decide +kernel)
theorem cl_kind : GoodIn wB (va_wsS RL 134 yL_kind (.codeWith yL_kind cL_kind 5 (some .int) [(0, 10, 13, 28), (0, 10, 17, 13)] :: wB)) ∧ yL_kind.cls ≠ "java/lang/invoke/MethodHandle" ∧ yL_kind.cls ≠ "java/lang/invoke/VarHandle" ∧ (parseMethodDescriptor yL_kind.desc).map (fun d => d.parameters.length) = some 4 := xcL_of mw_652 mw_653 mw_0 mw_654 (by decide) (by decide +kernel)
theorem cl_bidder : GoodIn wB (va_wsS RL 138 yL_bidder (.codeWith yL_bidder cL_bidder 5 (some .int) [(0, 10, 13, 28), (0, 10, 17, 13)] :: wB)) ∧ yL_bidder.cls ≠ "java/lang/invoke/MethodHandle" ∧ yL_bidder.cls ≠ "java/lang/invoke/VarHandle" ∧ (parseMethodDescriptor yL_bidder.desc).map (fun d => d.parameters.length) = some 4 := xcL_of mw_683 mw_684 mw_0 mw_685 (by decide) (by decide +kernel)
theorem cl_demand : GoodIn wB (va_wsS RL 141 yL_demand (.codeWith yL_demand cL_demand 5 (some .int) [(0, 10, 13, 28)] :: wB)) ∧ yL_demand.cls ≠ "java/lang/invoke/MethodHandle" ∧ yL_demand.cls ≠ "java/lang/invoke/VarHandle" ∧ (parseMethodDescriptor yL_demand.desc).map (fun d => d.parameters.length) = some 4 := xcL_of mw_702 mw_703 mw_0 mw_704 (by decide) (by decide +kernel)
theorem cl_pack : GoodIn wB (va_wsS RL 144 yL_pack (.codeWith yL_pack cL_pack 6 (some .int) [(0, 12, 15, 28), (0, 12, 19, 13)] :: wB)) ∧ yL_pack.cls ≠ "java/lang/invoke/MethodHandle" ∧ yL_pack.cls ≠ "java/lang/invoke/VarHandle" ∧ (parseMethodDescriptor yL_pack.desc).map (fun d => d.parameters.length) = some 5 := xcL_of mw_710 mw_711 mw_0 mw_712 (by decide) (by decide +kernel)
theorem cl_setting : GoodIn wB (va_wsS RL 148 yL_setting (.codeWith yL_setting cL_setting 4 (some .int) [(0, 9, 12, 13)] :: wB)) ∧ yL_setting.cls ≠ "java/lang/invoke/MethodHandle" ∧ yL_setting.cls ≠ "java/lang/invoke/VarHandle" ∧ (parseMethodDescriptor yL_setting.desc).map (fun d => d.parameters.length) = some 3 := xcL_of mw_720 mw_721 mw_0 mw_722 (by decide) (by decide +kernel)
theorem cl_offer : GoodIn wB (va_wsS RL 151 yL_offer (.codeWith yL_offer cL_offer 6 (some .int) [(0, 12, 15, 28), (0, 12, 19, 13), (0, 12, 23, 15)] :: wB)) ∧ yL_offer.cls ≠ "java/lang/invoke/MethodHandle" ∧ yL_offer.cls ≠ "java/lang/invoke/VarHandle" ∧ (parseMethodDescriptor yL_offer.desc).map (fun d => d.parameters.length) = some 5 := xcL_of mw_732 mw_733 mw_0 mw_734 (by decide) (by decide +kernel)
theorem cl_price : GoodIn wB (va_wsS RL 154 yL_price (.codeWith yL_price cL_price 5 (some .int) [(0, 10, 13, 28), (0, 10, 17, 13), (0, 10, 21, 15)] :: wB)) ∧ yL_price.cls ≠ "java/lang/invoke/MethodHandle" ∧ yL_price.cls ≠ "java/lang/invoke/VarHandle" ∧ (parseMethodDescriptor yL_price.desc).map (fun d => d.parameters.length) = some 4 := xcL_of mw_753 mw_754 mw_0 mw_755 (by decide) (by decide +kernel)
theorem cl_join : GoodIn wB (va_wsS RL 157 yL_join (.codeWith yL_join cL_join 5 (some .int) [(0, 10, 13, 13), (0, 10, 17, 15)] :: wB)) ∧ yL_join.cls ≠ "java/lang/invoke/MethodHandle" ∧ yL_join.cls ≠ "java/lang/invoke/VarHandle" ∧ (parseMethodDescriptor yL_join.desc).map (fun d => d.parameters.length) = some 4 := xcL_of mw_764 mw_765 mw_0 mw_766 (by decide) (by decide +kernel)
theorem cl_value : GoodIn wB (va_wsS RL 160 yL_value (.codeWith yL_value cL_value 6 (some .int) [(0, 12, 15, 28), (0, 12, 19, 13)] :: wB)) ∧ yL_value.cls ≠ "java/lang/invoke/MethodHandle" ∧ yL_value.cls ≠ "java/lang/invoke/VarHandle" ∧ (parseMethodDescriptor yL_value.desc).map (fun d => d.parameters.length) = some 5 := xcL_of mw_773 mw_774 mw_0 mw_775 (by decide) (by decide +kernel)
theorem cl_ask : GoodIn wB (va_wsS RL 163 yL_ask (.codeWith yL_ask cL_ask 6 (some .int) [(0, 12, 15, 28), (0, 12, 19, 13), (0, 12, 23, 15)] :: wB)) ∧ yL_ask.cls ≠ "java/lang/invoke/MethodHandle" ∧ yL_ask.cls ≠ "java/lang/invoke/VarHandle" ∧ (parseMethodDescriptor yL_ask.desc).map (fun d => d.parameters.length) = some 5 := xcL_of mw_781 mw_782 mw_0 mw_783 (by decide) (by decide +kernel)
theorem cl_bid : GoodIn wB (va_wsS RL 166 yL_bid (.codeWith yL_bid cL_bid 4 (some .int) [(0, 9, 12, 28), (0, 9, 15, 15)] :: wB)) ∧ yL_bid.cls ≠ "java/lang/invoke/MethodHandle" ∧ yL_bid.cls ≠ "java/lang/invoke/VarHandle" ∧ (parseMethodDescriptor yL_bid.desc).map (fun d => d.parameters.length) = some 3 := xcL_of mw_789 mw_790 mw_0 mw_791 (by decide) (by decide +kernel)
theorem cl_close : GoodIn wB (va_wsS RL 169 yL_close (.codeWith yL_close cL_close 3 (some .int) [(0, 8, 11, 15)] :: wB)) ∧ yL_close.cls ≠ "java/lang/invoke/MethodHandle" ∧ yL_close.cls ≠ "java/lang/invoke/VarHandle" ∧ (parseMethodDescriptor yL_close.desc).map (fun d => d.parameters.length) = some 2 := xcL_of mw_797 mw_798 mw_0 mw_799 (by decide) (by decide +kernel)
theorem cl_add : GoodIn wB (va_wsS RL 172 yL_add (.codeWith yL_add cL_add 8 (some .int) [(0, 16, 19, 28), (0, 16, 23, 13), (0, 16, 27, 15)] :: wB)) ∧ yL_add.cls ≠ "java/lang/invoke/MethodHandle" ∧ yL_add.cls ≠ "java/lang/invoke/VarHandle" ∧ (parseMethodDescriptor yL_add.desc).map (fun d => d.parameters.length) = some 7 := xcL_of mw_805 mw_806 mw_0 mw_807 (by decide) (by decide +kernel)
theorem cl_drop : GoodIn wB (va_wsS RL 176 yL_drop (.codeWith yL_drop cL_drop 5 (some .int) [(0, 10, 13, 28)] :: wB)) ∧ yL_drop.cls ≠ "java/lang/invoke/MethodHandle" ∧ yL_drop.cls ≠ "java/lang/invoke/VarHandle" ∧ (parseMethodDescriptor yL_drop.desc).map (fun d => d.parameters.length) = some 4 := xcL_of mw_825 mw_826 mw_0 mw_827 (by decide) (by decide +kernel)
theorem cl_set : GoodIn wB (va_wsS RL 179 yL_set (.codeWith yL_set cL_set 5 (some .int) [(0, 10, 13, 13)] :: wB)) ∧ yL_set.cls ≠ "java/lang/invoke/MethodHandle" ∧ yL_set.cls ≠ "java/lang/invoke/VarHandle" ∧ (parseMethodDescriptor yL_set.desc).map (fun d => d.parameters.length) = some 4 := xcL_of mw_840 mw_841 mw_0 mw_842 (by decide) (by decide +kernel)
theorem cl_undo : GoodIn wB (va_wsS RL 182 yL_undo (.codeWith yL_undo cL_undo 3 (some .int) [(0, 8, 11, 15)] :: wB)) ∧ yL_undo.cls ≠ "java/lang/invoke/MethodHandle" ∧ yL_undo.cls ≠ "java/lang/invoke/VarHandle" ∧ (parseMethodDescriptor yL_undo.desc).map (fun d => d.parameters.length) = some 2 := xcL_of mw_855 mw_856 mw_0 mw_857 (by decide) (by decide +kernel)
theorem cl_gets : GoodIn wB (va_wsS RL 189 yL_gets (.codeWith yL_gets cL_gets 4 (some .int) [(0, 9, 12, 28)] :: wB)) ∧ yL_gets.cls ≠ "java/lang/invoke/MethodHandle" ∧ yL_gets.cls ≠ "java/lang/invoke/VarHandle" ∧ (parseMethodDescriptor yL_gets.desc).map (fun d => d.parameters.length) = some 3 := xcL_of mw_875 mw_876 mw_0 mw_877 (by decide) (by decide +kernel)
theorem cl_pays : GoodIn wB (va_wsS RL 192 yL_pays (.codeWith yL_pays cL_pays 4 (some .int) [(0, 9, 12, 28)] :: wB)) ∧ yL_pays.cls ≠ "java/lang/invoke/MethodHandle" ∧ yL_pays.cls ≠ "java/lang/invoke/VarHandle" ∧ (parseMethodDescriptor yL_pays.desc).map (fun d => d.parameters.length) = some 3 := xcL_of mw_886 mw_887 mw_0 mw_888 (by decide) (by decide +kernel)
theorem cl_oneMore : GoodIn wB (va_wsS RL 195 yL_oneMore (.codeWith yL_oneMore cL_oneMore 4 (some .int) [(0, 9, 12, 28)] :: wB)) ∧ yL_oneMore.cls ≠ "java/lang/invoke/MethodHandle" ∧ yL_oneMore.cls ≠ "java/lang/invoke/VarHandle" ∧ (parseMethodDescriptor yL_oneMore.desc).map (fun d => d.parameters.length) = some 3 := xcL_of mw_893 mw_894 mw_0 mw_895 (by decide) (by decide +kernel)
theorem cl_wouldAsk : GoodIn wB (va_wsS RL 202 yL_wouldAsk (.codeWith yL_wouldAsk cL_wouldAsk 5 (some .int) [(0, 10, 13, 28)] :: wB)) ∧ yL_wouldAsk.cls ≠ "java/lang/invoke/MethodHandle" ∧ yL_wouldAsk.cls ≠ "java/lang/invoke/VarHandle" ∧ (parseMethodDescriptor yL_wouldAsk.desc).map (fun d => d.parameters.length) = some 4 := xcL_of mw_900 mw_901 mw_0 mw_902 (by decide) (by decide +kernel)
theorem cl_endPrice : GoodIn wB (va_wsS RL 209 yL_endPrice (.codeWith yL_endPrice cL_endPrice 4 (some .int) [(0, 9, 12, 28)] :: wB)) ∧ yL_endPrice.cls ≠ "java/lang/invoke/MethodHandle" ∧ yL_endPrice.cls ≠ "java/lang/invoke/VarHandle" ∧ (parseMethodDescriptor yL_endPrice.desc).map (fun d => d.parameters.length) = some 3 := xcL_of mw_907 mw_908 mw_0 mw_909 (by decide) (by decide +kernel)
theorem cl_runScript : GoodIn wB (va_wsS RL 214 yL_runScript (.codeWith yL_runScript cL_runScript 6 (some .int) [(0, 11, 14, 13)] :: wB)) ∧ yL_runScript.cls ≠ "java/lang/invoke/MethodHandle" ∧ yL_runScript.cls ≠ "java/lang/invoke/VarHandle" ∧ (parseMethodDescriptor yL_runScript.desc).map (fun d => d.parameters.length) = some 4 := xcL_of mw_914 mw_915 mw_0 mw_916 (by decide) (by decide +kernel)
theorem cl_simulate : GoodIn wB (va_wsS RL 218 yL_simulate (.codeWith yL_simulate cL_simulate 6 (some .int) [(0, 11, 14, 13)] :: wB)) ∧ yL_simulate.cls ≠ "java/lang/invoke/MethodHandle" ∧ yL_simulate.cls ≠ "java/lang/invoke/VarHandle" ∧ (parseMethodDescriptor yL_simulate.desc).map (fun d => d.parameters.length) = some 4 := xcL_of mw_945 mw_946 mw_0 mw_947 (by decide) (by decide +kernel)
theorem cl_save : GoodIn wB (va_wsS RL 222 yL_save (.codeWith yL_save cL_save 4 (some .int) [(0, 9, 12, 28)] :: wB)) ∧ yL_save.cls ≠ "java/lang/invoke/MethodHandle" ∧ yL_save.cls ≠ "java/lang/invoke/VarHandle" ∧ (parseMethodDescriptor yL_save.desc).map (fun d => d.parameters.length) = some 3 := xcL_of mw_970 mw_971 mw_0 mw_972 (by decide) (by decide +kernel)
theorem cl_restore : GoodIn wB (va_wsS RL 225 yL_restore (.codeWith yL_restore cL_restore 4 (some .int) [(0, 9, 12, 28), (0, 9, 15, 15)] :: wB)) ∧ yL_restore.cls ≠ "java/lang/invoke/MethodHandle" ∧ yL_restore.cls ≠ "java/lang/invoke/VarHandle" ∧ (parseMethodDescriptor yL_restore.desc).map (fun d => d.parameters.length) = some 3 := xcL_of mw_982 mw_983 mw_0 mw_984 (by decide) (by decide +kernel)
