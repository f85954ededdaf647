set_option maxHeartbeats 1000000 in
theorem lk_tryAdd (l : Launch) (G : va_G) (Y : Nat → Nat) (xo : Nat) (c1 : Int32) (c2 : Int32) (c3 : Int32) (c4 : Int32) (c5 : Int32) {fs : List Value} {segs segsC : List va_W} (is : List Nat) {post : Int32 → List va_W → Prop} {fr lo : Nat} (hC : CtI l yX5_add cX5_add 6 .int fr lo [.ref xo, .int c1, .int c2, .int c3, .int c4, .int c5] segsC post G Y) (hs0 : segs[0]? = some [(xo, .inr (4, fs))]) (hs : is.map (fun i => segs[i]?) = segsC.map some) (hnd : va_nd is = true) {post2 : Int32 → List va_W → Prop} (hpp : ∀ r sg1, post r sg1 → post2 r (xPut segs is sg1)) : CtL l yL_tryAdd cL_tryAdd 7 [(0, 11, 12, 13), (0, 11, 17, 16), (0, 11, 22, 19)] (fr + 1) (8 + (6 + 11) + lo) [.ref xo, .int c1, .int c2, .int c3, .int c4, .int c5] segs post2 G Y := by
  refine x_ofL (by decide) (Nat.le_of_ble_eq_true rfl) (fun p e s m args below meth c A ls Q M hK hZ hN hw hl htab hret => ?_)
  obtain ⟨hx, hb, -⟩ := id M
  have hl : lv_has ls 7 [(0, .ref xo), (1, .int c1), (2, .int c2), (3, .int c3), (4, .int c4), (5, .int c5)] := hl
  refine lv_aload_n hx hb dL_tryAdd_0 rfl (lv_at hl 0 rfl) ?_
  refine lv_iload_n hx hb dL_tryAdd_1 rfl (lv_at hl 1 rfl) ?_
  refine lv_iload_n hx hb dL_tryAdd_2 rfl (lv_at hl 2 rfl) ?_
  refine lv_iload_n hx hb dL_tryAdd_3 rfl (lv_at hl 3 rfl) ?_
  refine lv_iload hx hb dL_tryAdd_4 (lv_at hl 4 rfl) ?_
  refine lv_iload hx hb dL_tryAdd_6 (lv_at hl 5 rfl) ?_
  refine x_cVI2 (As := [.int c1, .int c2, .int c3, .int c4, .int c5]) hC cw_L_7 is 0 0 M hK hZ hw hl.1 hs hnd hs0 rfl rfl ⟨Nat.le_refl _, Nat.le_refl _⟩ ⟨Nat.zero_le _, Nat.zero_le _⟩ rfl rfl (Nat.le_of_ble_eq_true rfl) dL_tryAdd_8 (fun r sg hp ha H locs hw => ?_)
  exact hret _ _ _ r _ _ 0 0 (by decide) (by decide) dL_tryAdd_11 hw (xPut_ads hs hnd ha) (hpp r sg hp)
set_option maxHeartbeats 1000000 in
theorem lt_tryAdd_eIOB (l : Launch) (G : va_G) (Y : Nat → Nat) (xo : Nat) (c1 : Int32) (c2 : Int32) (c3 : Int32) (c4 : Int32) (c5 : Int32) {fs : List Value} {segs segsC : List va_W} (is : List Nat) {fr lo : Nat} (hC : CtT l yX5_add cX5_add 6 (some .int) fr lo [.ref xo, .int c1, .int c2, .int c3, .int c4, .int c5] segsC eIOB G Y) (hs0 : segs[0]? = some [(xo, .inr (4, fs))]) (hs : is.map (fun i => segs[i]?) = segsC.map some) (hnd : va_nd is = true) : CtL l yL_tryAdd cL_tryAdd 7 [(0, 11, 12, 13), (0, 11, 17, 16), (0, 11, 22, 19)] (fr + 1) (8 + (6 + 11) + lo) [.ref xo, .int c1, .int c2, .int c3, .int c4, .int c5] segs (fun k sg => k = (-9999001) ∧ sg = segs) G Y := by
  refine x_ofL (by decide) (Nat.le_of_ble_eq_true rfl) (fun p e s m args below meth c A ls Q M hK hZ hN hw hl htab hret => ?_)
  obtain ⟨hx, hb, -⟩ := id M
  have hl : lv_has ls 7 [(0, .ref xo), (1, .int c1), (2, .int c2), (3, .int c3), (4, .int c4), (5, .int c5)] := hl
  refine lv_aload_n hx hb dL_tryAdd_0 rfl (lv_at hl 0 rfl) ?_
  refine lv_iload_n hx hb dL_tryAdd_1 rfl (lv_at hl 1 rfl) ?_
  refine lv_iload_n hx hb dL_tryAdd_2 rfl (lv_at hl 2 rfl) ?_
  refine lv_iload_n hx hb dL_tryAdd_3 rfl (lv_at hl 3 rfl) ?_
  refine lv_iload hx hb dL_tryAdd_4 (lv_at hl 4 rfl) ?_
  refine lv_iload hx hb dL_tryAdd_6 (lv_at hl 5 rfl) ?_
  refine x_catchV (As := [.int c1, .int c2, .int c3, .int c4, .int c5]) (ri := 0) (rj := 0) (pre := []) (xh := { startPc := 0, endPc := 11, handlerPc := 12, catchType := 13 }) (suf := [{ startPc := 0, endPc := 11, handlerPc := 17, catchType := 16 }, { startPc := 0, endPc := 11, handlerPc := 22, catchType := 19 }]) hC cw_L_7 is M hK hZ hw hl.1 hs hnd hs0 rfl rfl ⟨Nat.le_refl _, Nat.le_refl _⟩ ⟨Nat.le_refl _, Nat.le_refl _⟩ rfl rfl (Nat.le_of_ble_eq_true rfl) dL_tryAdd_8 (htab.trans rfl) (fun z hz => nomatch hz) (by decide) (by decide) mw_683 (cast_self (M.2.2.2.2 _ mw_694)) (fun q H locs hw => ?_)
  refine lv_astore (lv' := [(6, .ref q), (0, .ref xo), (1, .int c1), (2, .int c2), (3, .int c3), (4, .int c4), (5, .int c5)]) hx hb dL_tryAdd_12 hl (by decide) rfl (fun ls hl => ?_)
  refine lv_ldc (v := (-9999001)) hx hb M.2.2.2.1 (M.2.2.2.2 _ mw_711) dL_tryAdd_14 ?_
  exact hret _ _ _ (-9999001) _ _ 1 6 (by decide) (by decide) dL_tryAdd_16 hw rfl ⟨rfl, rfl⟩
set_option maxHeartbeats 1000000 in
theorem lt_tryAdd_eIAE (l : Launch) (G : va_G) (Y : Nat → Nat) (xo : Nat) (c1 : Int32) (c2 : Int32) (c3 : Int32) (c4 : Int32) (c5 : Int32) {fs : List Value} {segs segsC : List va_W} (is : List Nat) {fr lo : Nat} (hC : CtT l yX5_add cX5_add 6 (some .int) fr lo [.ref xo, .int c1, .int c2, .int c3, .int c4, .int c5] segsC eIAE G Y) (hs0 : segs[0]? = some [(xo, .inr (4, fs))]) (hs : is.map (fun i => segs[i]?) = segsC.map some) (hnd : va_nd is = true) : CtL l yL_tryAdd cL_tryAdd 7 [(0, 11, 12, 13), (0, 11, 17, 16), (0, 11, 22, 19)] (fr + 1) (8 + (6 + 11) + lo) [.ref xo, .int c1, .int c2, .int c3, .int c4, .int c5] segs (fun k sg => k = (-9999002) ∧ sg = segs) G Y := by
  refine x_ofL (by decide) (Nat.le_of_ble_eq_true rfl) (fun p e s m args below meth c A ls Q M hK hZ hN hw hl htab hret => ?_)
  obtain ⟨hx, hb, -⟩ := id M
  have hl : lv_has ls 7 [(0, .ref xo), (1, .int c1), (2, .int c2), (3, .int c3), (4, .int c4), (5, .int c5)] := hl
  refine lv_aload_n hx hb dL_tryAdd_0 rfl (lv_at hl 0 rfl) ?_
  refine lv_iload_n hx hb dL_tryAdd_1 rfl (lv_at hl 1 rfl) ?_
  refine lv_iload_n hx hb dL_tryAdd_2 rfl (lv_at hl 2 rfl) ?_
  refine lv_iload_n hx hb dL_tryAdd_3 rfl (lv_at hl 3 rfl) ?_
  refine lv_iload hx hb dL_tryAdd_4 (lv_at hl 4 rfl) ?_
  refine lv_iload hx hb dL_tryAdd_6 (lv_at hl 5 rfl) ?_
  refine x_catchV (As := [.int c1, .int c2, .int c3, .int c4, .int c5]) (ri := 0) (rj := 0) (pre := [{ startPc := 0, endPc := 11, handlerPc := 12, catchType := 13 }]) (xh := { startPc := 0, endPc := 11, handlerPc := 17, catchType := 16 }) (suf := [{ startPc := 0, endPc := 11, handlerPc := 22, catchType := 19 }]) hC cw_L_7 is M hK hZ hw hl.1 hs hnd hs0 rfl rfl ⟨Nat.le_refl _, Nat.le_refl _⟩ ⟨Nat.le_refl _, Nat.le_refl _⟩ rfl rfl (Nat.le_of_ble_eq_true rfl) dL_tryAdd_8 (htab.trans rfl) (fun z hz => by obtain rfl := List.mem_singleton.mp hz; exact Or.inr ⟨by decide, _, mw_683, hN.1⟩) (by decide) (by decide) mw_181 (cast_self (M.2.2.2.2 _ mw_190)) (fun q H locs hw => ?_)
  refine lv_astore (lv' := [(6, .ref q), (0, .ref xo), (1, .int c1), (2, .int c2), (3, .int c3), (4, .int c4), (5, .int c5)]) hx hb dL_tryAdd_17 hl (by decide) rfl (fun ls hl => ?_)
  refine lv_ldc (v := (-9999002)) hx hb M.2.2.2.1 (M.2.2.2.2 _ mw_387) dL_tryAdd_19 ?_
  exact hret _ _ _ (-9999002) _ _ 1 6 (by decide) (by decide) dL_tryAdd_21 hw rfl ⟨rfl, rfl⟩
set_option maxHeartbeats 1000000 in
theorem lt_tryAdd_eISE (l : Launch) (G : va_G) (Y : Nat → Nat) (xo : Nat) (c1 : Int32) (c2 : Int32) (c3 : Int32) (c4 : Int32) (c5 : Int32) {fs : List Value} {segs segsC : List va_W} (is : List Nat) {fr lo : Nat} (hC : CtT l yX5_add cX5_add 6 (some .int) fr lo [.ref xo, .int c1, .int c2, .int c3, .int c4, .int c5] segsC eISE G Y) (hs0 : segs[0]? = some [(xo, .inr (4, fs))]) (hs : is.map (fun i => segs[i]?) = segsC.map some) (hnd : va_nd is = true) : CtL l yL_tryAdd cL_tryAdd 7 [(0, 11, 12, 13), (0, 11, 17, 16), (0, 11, 22, 19)] (fr + 1) (8 + (6 + 11) + lo) [.ref xo, .int c1, .int c2, .int c3, .int c4, .int c5] segs (fun k sg => k = (-9999003) ∧ sg = segs) G Y := by
  refine x_ofL (by decide) (Nat.le_of_ble_eq_true rfl) (fun p e s m args below meth c A ls Q M hK hZ hN hw hl htab hret => ?_)
  obtain ⟨hx, hb, -⟩ := id M
  have hl : lv_has ls 7 [(0, .ref xo), (1, .int c1), (2, .int c2), (3, .int c3), (4, .int c4), (5, .int c5)] := hl
  refine lv_aload_n hx hb dL_tryAdd_0 rfl (lv_at hl 0 rfl) ?_
  refine lv_iload_n hx hb dL_tryAdd_1 rfl (lv_at hl 1 rfl) ?_
  refine lv_iload_n hx hb dL_tryAdd_2 rfl (lv_at hl 2 rfl) ?_
  refine lv_iload_n hx hb dL_tryAdd_3 rfl (lv_at hl 3 rfl) ?_
  refine lv_iload hx hb dL_tryAdd_4 (lv_at hl 4 rfl) ?_
  refine lv_iload hx hb dL_tryAdd_6 (lv_at hl 5 rfl) ?_
  refine x_catchV (As := [.int c1, .int c2, .int c3, .int c4, .int c5]) (ri := 0) (rj := 0) (pre := [{ startPc := 0, endPc := 11, handlerPc := 12, catchType := 13 }, { startPc := 0, endPc := 11, handlerPc := 17, catchType := 16 }]) (xh := { startPc := 0, endPc := 11, handlerPc := 22, catchType := 19 }) (suf := []) hC cw_L_7 is M hK hZ hw hl.1 hs hnd hs0 rfl rfl ⟨Nat.le_refl _, Nat.le_refl _⟩ ⟨Nat.le_refl _, Nat.le_refl _⟩ rfl rfl (Nat.le_of_ble_eq_true rfl) dL_tryAdd_8 (htab.trans rfl) (fun z hz => by rcases List.mem_cons.mp hz with rfl | hz; exact Or.inr ⟨by decide, _, mw_683, hN.2.1⟩; obtain rfl := List.mem_singleton.mp hz; exact Or.inr ⟨by decide, _, mw_181, hN.2.2⟩) (by decide) (by decide) mw_453 (cast_self (M.2.2.2.2 _ mw_464)) (fun q H locs hw => ?_)
  refine lv_astore (lv' := [(6, .ref q), (0, .ref xo), (1, .int c1), (2, .int c2), (3, .int c3), (4, .int c4), (5, .int c5)]) hx hb dL_tryAdd_22 hl (by decide) rfl (fun ls hl => ?_)
  refine lv_ldc (v := (-9999003)) hx hb M.2.2.2.1 (M.2.2.2.2 _ mw_483) dL_tryAdd_24 ?_
  exact hret _ _ _ (-9999003) _ _ 1 6 (by decide) (by decide) dL_tryAdd_26 hw rfl ⟨rfl, rfl⟩
set_option maxHeartbeats 1000000 in
theorem lk_tryScript (l : Launch) (G : va_G) (Y : Nat → Nat) (xo : Nat) (c1 : Int32) (c2 : Int64) {fs : List Value} {segs segsC : List va_W} (is : List Nat) {post : Int32 → List va_W → Prop} {fr lo : Nat} (hC : CtI l yX5_runScript cX5_runScript 7 .int fr lo [.ref xo, .int c1, .long c2] segsC post G Y) (hs0 : segs[0]? = some [(xo, .inr (4, fs))]) (hs : is.map (fun i => segs[i]?) = segsC.map some) (hnd : va_nd is = true) {post2 : Int32 → List va_W → Prop} (hpp : ∀ r sg1, post r sg1 → post2 r (xPut segs is sg1)) : CtL l yL_tryScript cL_tryScript 5 [(0, 6, 7, 16)] (fr + 1) (8 + (7 + 11) + lo) [.ref xo, .int c1, .long c2] segs post2 G Y := by
  refine x_ofL (by decide) (Nat.le_of_ble_eq_true rfl) (fun p e s m args below meth c A ls Q M hK hZ hN hw hl htab hret => ?_)
  obtain ⟨hx, hb, -⟩ := id M
  have hl : lv_has ls 5 [(0, .ref xo), (1, .int c1), (2, .long c2)] := hl
  refine lv_aload_n hx hb dL_tryScript_0 rfl (lv_at hl 0 rfl) ?_
  refine lv_iload_n hx hb dL_tryScript_1 rfl (lv_at hl 1 rfl) ?_
  refine lv_lload_n hx hb dL_tryScript_2 rfl (lv_at hl 2 rfl) ?_
  refine x_cVI2 (As := [.int c1, .long c2]) hC cw_L_22 is 0 0 M hK hZ hw hl.1 hs hnd hs0 rfl rfl ⟨Nat.le_refl _, Nat.le_refl _⟩ ⟨Nat.zero_le _, Nat.zero_le _⟩ rfl rfl (Nat.le_of_ble_eq_true rfl) dL_tryScript_3 (fun r sg hp ha H locs hw => ?_)
  exact hret _ _ _ r _ _ 0 0 (by decide) (by decide) dL_tryScript_6 hw (xPut_ads hs hnd ha) (hpp r sg hp)
set_option maxHeartbeats 1000000 in
theorem lt_tryScript_eIAE (l : Launch) (G : va_G) (Y : Nat → Nat) (xo : Nat) (c1 : Int32) (c2 : Int64) {fs : List Value} {segs segsC : List va_W} (is : List Nat) {fr lo : Nat} (hC : CtT l yX5_runScript cX5_runScript 7 (some .int) fr lo [.ref xo, .int c1, .long c2] segsC eIAE G Y) (hs0 : segs[0]? = some [(xo, .inr (4, fs))]) (hs : is.map (fun i => segs[i]?) = segsC.map some) (hnd : va_nd is = true) : CtL l yL_tryScript cL_tryScript 5 [(0, 6, 7, 16)] (fr + 1) (8 + (7 + 11) + lo) [.ref xo, .int c1, .long c2] segs (fun k sg => k = (-9999002) ∧ sg = segs) G Y := by
  refine x_ofL (by decide) (Nat.le_of_ble_eq_true rfl) (fun p e s m args below meth c A ls Q M hK hZ hN hw hl htab hret => ?_)
  obtain ⟨hx, hb, -⟩ := id M
  have hl : lv_has ls 5 [(0, .ref xo), (1, .int c1), (2, .long c2)] := hl
  refine lv_aload_n hx hb dL_tryScript_0 rfl (lv_at hl 0 rfl) ?_
  refine lv_iload_n hx hb dL_tryScript_1 rfl (lv_at hl 1 rfl) ?_
  refine lv_lload_n hx hb dL_tryScript_2 rfl (lv_at hl 2 rfl) ?_
  refine x_catchV (As := [.int c1, .long c2]) (ri := 0) (rj := 0) (pre := []) (xh := { startPc := 0, endPc := 6, handlerPc := 7, catchType := 16 }) (suf := []) hC cw_L_22 is M hK hZ hw hl.1 hs hnd hs0 rfl rfl ⟨Nat.le_refl _, Nat.le_refl _⟩ ⟨Nat.le_refl _, Nat.le_refl _⟩ rfl rfl (Nat.le_of_ble_eq_true rfl) dL_tryScript_3 (htab.trans rfl) (fun z hz => nomatch hz) (by decide) (by decide) mw_181 (cast_self (M.2.2.2.2 _ mw_190)) (fun q H locs hw => ?_)
  refine lv_astore (lv' := [(4, .ref q), (0, .ref xo), (1, .int c1), (2, .long c2)]) hx hb dL_tryScript_7 hl (by decide) rfl (fun ls hl => ?_)
  refine lv_ldc (v := (-9999002)) hx hb M.2.2.2.1 (M.2.2.2.2 _ mw_387) dL_tryScript_9 ?_
  exact hret _ _ _ (-9999002) _ _ 1 6 (by decide) (by decide) dL_tryScript_11 hw rfl ⟨rfl, rfl⟩
set_option maxHeartbeats 1000000 in
theorem lk_trySimulate (l : Launch) (G : va_G) (Y : Nat → Nat) (xo : Nat) (c1 : Int64) (c2 : Int32) {fs : List Value} {segs segsC : List va_W} (is : List Nat) {post : Int32 → List va_W → Prop} {fr lo : Nat} (hC : CtI l yX5_simulate cX5_simulate 7 .int fr lo [.ref xo, .long c1, .int c2] segsC post G Y) (hs0 : segs[0]? = some [(xo, .inr (4, fs))]) (hs : is.map (fun i => segs[i]?) = segsC.map some) (hnd : va_nd is = true) {post2 : Int32 → List va_W → Prop} (hpp : ∀ r sg1, post r sg1 → post2 r (xPut segs is sg1)) : CtL l yL_trySimulate cL_trySimulate 5 [(0, 6, 7, 16)] (fr + 1) (8 + (7 + 11) + lo) [.ref xo, .long c1, .int c2] segs post2 G Y := by
  refine x_ofL (by decide) (Nat.le_of_ble_eq_true rfl) (fun p e s m args below meth c A ls Q M hK hZ hN hw hl htab hret => ?_)
  obtain ⟨hx, hb, -⟩ := id M
  have hl : lv_has ls 5 [(0, .ref xo), (1, .long c1), (3, .int c2)] := hl
  refine lv_aload_n hx hb dL_trySimulate_0 rfl (lv_at hl 0 rfl) ?_
  refine lv_lload_n hx hb dL_trySimulate_1 rfl (lv_at hl 1 rfl) ?_
  refine lv_iload_n hx hb dL_trySimulate_2 rfl (lv_at hl 2 rfl) ?_
  refine x_cVI2 (As := [.long c1, .int c2]) hC cw_L_26 is 0 0 M hK hZ hw hl.1 hs hnd hs0 rfl rfl ⟨Nat.le_refl _, Nat.le_refl _⟩ ⟨Nat.zero_le _, Nat.zero_le _⟩ rfl rfl (Nat.le_of_ble_eq_true rfl) dL_trySimulate_3 (fun r sg hp ha H locs hw => ?_)
  exact hret _ _ _ r _ _ 0 0 (by decide) (by decide) dL_trySimulate_6 hw (xPut_ads hs hnd ha) (hpp r sg hp)
set_option maxHeartbeats 1000000 in
theorem lt_trySimulate_eIAE (l : Launch) (G : va_G) (Y : Nat → Nat) (xo : Nat) (c1 : Int64) (c2 : Int32) {fs : List Value} {segs segsC : List va_W} (is : List Nat) {fr lo : Nat} (hC : CtT l yX5_simulate cX5_simulate 7 (some .int) fr lo [.ref xo, .long c1, .int c2] segsC eIAE G Y) (hs0 : segs[0]? = some [(xo, .inr (4, fs))]) (hs : is.map (fun i => segs[i]?) = segsC.map some) (hnd : va_nd is = true) : CtL l yL_trySimulate cL_trySimulate 5 [(0, 6, 7, 16)] (fr + 1) (8 + (7 + 11) + lo) [.ref xo, .long c1, .int c2] segs (fun k sg => k = (-9999002) ∧ sg = segs) G Y := by
  refine x_ofL (by decide) (Nat.le_of_ble_eq_true rfl) (fun p e s m args below meth c A ls Q M hK hZ hN hw hl htab hret => ?_)
  obtain ⟨hx, hb, -⟩ := id M
  have hl : lv_has ls 5 [(0, .ref xo), (1, .long c1), (3, .int c2)] := hl
  refine lv_aload_n hx hb dL_trySimulate_0 rfl (lv_at hl 0 rfl) ?_
  refine lv_lload_n hx hb dL_trySimulate_1 rfl (lv_at hl 1 rfl) ?_
  refine lv_iload_n hx hb dL_trySimulate_2 rfl (lv_at hl 2 rfl) ?_
  refine x_catchV (As := [.long c1, .int c2]) (ri := 0) (rj := 0) (pre := []) (xh := { startPc := 0, endPc := 6, handlerPc := 7, catchType := 16 }) (suf := []) hC cw_L_26 is M hK hZ hw hl.1 hs hnd hs0 rfl rfl ⟨Nat.le_refl _, Nat.le_refl _⟩ ⟨Nat.le_refl _, Nat.le_refl _⟩ rfl rfl (Nat.le_of_ble_eq_true rfl) dL_trySimulate_3 (htab.trans rfl) (fun z hz => nomatch hz) (by decide) (by decide) mw_181 (cast_self (M.2.2.2.2 _ mw_190)) (fun q H locs hw => ?_)
  refine lv_astore (lv' := [(4, .ref q), (0, .ref xo), (1, .long c1), (3, .int c2)]) hx hb dL_trySimulate_7 hl (by decide) rfl (fun ls hl => ?_)
  refine lv_ldc (v := (-9999002)) hx hb M.2.2.2.1 (M.2.2.2.2 _ mw_387) dL_trySimulate_9 ?_
  exact hret _ _ _ (-9999002) _ _ 1 6 (by decide) (by decide) dL_trySimulate_11 hw rfl ⟨rfl, rfl⟩
set_option maxHeartbeats 1000000 in
theorem lk_tryAppend (l : Launch) (G : va_G) (Y : Nat → Nat) (xo : Nat) (c1 : Int32) {fs : List Value} {segs segsC : List va_W} (is : List Nat) {post : Int32 → List va_W → Prop} {fr lo : Nat} (hC : CtI l yX5_append cX5_append 2 .int fr lo [.ref xo, .int c1] segsC post G Y) (hs0 : segs[0]? = some [(xo, .inr (4, fs))]) (hs : is.map (fun i => segs[i]?) = segsC.map some) (hnd : va_nd is = true) {post2 : Int32 → List va_W → Prop} (hpp : ∀ r sg1, post r sg1 → post2 r (xPut segs is sg1)) : CtL l yL_tryAppend cL_tryAppend 3 [(0, 5, 6, 16), (0, 5, 10, 19)] (fr + 1) (8 + (2 + 11) + lo) [.ref xo, .int c1] segs post2 G Y := by
  refine x_ofL (by decide) (Nat.le_of_ble_eq_true rfl) (fun p e s m args below meth c A ls Q M hK hZ hN hw hl htab hret => ?_)
  obtain ⟨hx, hb, -⟩ := id M
  have hl : lv_has ls 3 [(0, .ref xo), (1, .int c1)] := hl
  refine lv_aload_n hx hb dL_tryAppend_0 rfl (lv_at hl 0 rfl) ?_
  refine lv_iload_n hx hb dL_tryAppend_1 rfl (lv_at hl 1 rfl) ?_
  refine x_cVI2 (As := [.int c1]) hC cw_L_30 is 0 0 M hK hZ hw hl.1 hs hnd hs0 rfl rfl ⟨Nat.le_refl _, Nat.le_refl _⟩ ⟨Nat.zero_le _, Nat.zero_le _⟩ rfl rfl (Nat.le_of_ble_eq_true rfl) dL_tryAppend_2 (fun r sg hp ha H locs hw => ?_)
  exact hret _ _ _ r _ _ 0 0 (by decide) (by decide) dL_tryAppend_5 hw (xPut_ads hs hnd ha) (hpp r sg hp)
set_option maxHeartbeats 1000000 in
theorem lt_tryAppend_eIAE (l : Launch) (G : va_G) (Y : Nat → Nat) (xo : Nat) (c1 : Int32) {fs : List Value} {segs segsC : List va_W} (is : List Nat) {fr lo : Nat} (hC : CtT l yX5_append cX5_append 2 (some .int) fr lo [.ref xo, .int c1] segsC eIAE G Y) (hs0 : segs[0]? = some [(xo, .inr (4, fs))]) (hs : is.map (fun i => segs[i]?) = segsC.map some) (hnd : va_nd is = true) : CtL l yL_tryAppend cL_tryAppend 3 [(0, 5, 6, 16), (0, 5, 10, 19)] (fr + 1) (8 + (2 + 11) + lo) [.ref xo, .int c1] segs (fun k sg => k = (-9999002) ∧ sg = segs) G Y := by
  refine x_ofL (by decide) (Nat.le_of_ble_eq_true rfl) (fun p e s m args below meth c A ls Q M hK hZ hN hw hl htab hret => ?_)
  obtain ⟨hx, hb, -⟩ := id M
  have hl : lv_has ls 3 [(0, .ref xo), (1, .int c1)] := hl
  refine lv_aload_n hx hb dL_tryAppend_0 rfl (lv_at hl 0 rfl) ?_
  refine lv_iload_n hx hb dL_tryAppend_1 rfl (lv_at hl 1 rfl) ?_
  refine x_catchV (As := [.int c1]) (ri := 0) (rj := 0) (pre := []) (xh := { startPc := 0, endPc := 5, handlerPc := 6, catchType := 16 }) (suf := [{ startPc := 0, endPc := 5, handlerPc := 10, catchType := 19 }]) hC cw_L_30 is M hK hZ hw hl.1 hs hnd hs0 rfl rfl ⟨Nat.le_refl _, Nat.le_refl _⟩ ⟨Nat.le_refl _, Nat.le_refl _⟩ rfl rfl (Nat.le_of_ble_eq_true rfl) dL_tryAppend_2 (htab.trans rfl) (fun z hz => nomatch hz) (by decide) (by decide) mw_181 (cast_self (M.2.2.2.2 _ mw_190)) (fun q H locs hw => ?_)
  refine lv_astore_n (lv' := [(2, .ref q), (0, .ref xo), (1, .int c1)]) hx hb dL_tryAppend_6 rfl hl (by decide) rfl (fun ls hl => ?_)
  refine lv_ldc (v := (-9999002)) hx hb M.2.2.2.1 (M.2.2.2.2 _ mw_387) dL_tryAppend_7 ?_
  exact hret _ _ _ (-9999002) _ _ 1 6 (by decide) (by decide) dL_tryAppend_9 hw rfl ⟨rfl, rfl⟩
set_option maxHeartbeats 1000000 in
theorem lt_tryAppend_eISE (l : Launch) (G : va_G) (Y : Nat → Nat) (xo : Nat) (c1 : Int32) {fs : List Value} {segs segsC : List va_W} (is : List Nat) {fr lo : Nat} (hC : CtT l yX5_append cX5_append 2 (some .int) fr lo [.ref xo, .int c1] segsC eISE G Y) (hs0 : segs[0]? = some [(xo, .inr (4, fs))]) (hs : is.map (fun i => segs[i]?) = segsC.map some) (hnd : va_nd is = true) : CtL l yL_tryAppend cL_tryAppend 3 [(0, 5, 6, 16), (0, 5, 10, 19)] (fr + 1) (8 + (2 + 11) + lo) [.ref xo, .int c1] segs (fun k sg => k = (-9999003) ∧ sg = segs) G Y := by
  refine x_ofL (by decide) (Nat.le_of_ble_eq_true rfl) (fun p e s m args below meth c A ls Q M hK hZ hN hw hl htab hret => ?_)
  obtain ⟨hx, hb, -⟩ := id M
  have hl : lv_has ls 3 [(0, .ref xo), (1, .int c1)] := hl
  refine lv_aload_n hx hb dL_tryAppend_0 rfl (lv_at hl 0 rfl) ?_
  refine lv_iload_n hx hb dL_tryAppend_1 rfl (lv_at hl 1 rfl) ?_
  refine x_catchV (As := [.int c1]) (ri := 0) (rj := 0) (pre := [{ startPc := 0, endPc := 5, handlerPc := 6, catchType := 16 }]) (xh := { startPc := 0, endPc := 5, handlerPc := 10, catchType := 19 }) (suf := []) hC cw_L_30 is M hK hZ hw hl.1 hs hnd hs0 rfl rfl ⟨Nat.le_refl _, Nat.le_refl _⟩ ⟨Nat.le_refl _, Nat.le_refl _⟩ rfl rfl (Nat.le_of_ble_eq_true rfl) dL_tryAppend_2 (htab.trans rfl) (fun z hz => by obtain rfl := List.mem_singleton.mp hz; exact Or.inr ⟨by decide, _, mw_181, hN.2.2⟩) (by decide) (by decide) mw_453 (cast_self (M.2.2.2.2 _ mw_464)) (fun q H locs hw => ?_)
  refine lv_astore_n (lv' := [(2, .ref q), (0, .ref xo), (1, .int c1)]) hx hb dL_tryAppend_10 rfl hl (by decide) rfl (fun ls hl => ?_)
  refine lv_ldc (v := (-9999003)) hx hb M.2.2.2.1 (M.2.2.2.2 _ mw_483) dL_tryAppend_11 ?_
  exact hret _ _ _ (-9999003) _ _ 1 6 (by decide) (by decide) dL_tryAppend_13 hw rfl ⟨rfl, rfl⟩
set_option maxHeartbeats 1000000 in
theorem lk_tryLoad (l : Launch) (G : va_G) (Y : Nat → Nat) (xo : Nat)  {fs : List Value} {segs segsC : List va_W} (is : List Nat) {post : Int32 → List va_W → Prop} {fr lo : Nat} (hC : CtI l yX5_load cX5_load 2 .int fr lo [.ref xo] segsC post G Y) (hs0 : segs[0]? = some [(xo, .inr (4, fs))]) (hs : is.map (fun i => segs[i]?) = segsC.map some) (hnd : va_nd is = true) {post2 : Int32 → List va_W → Prop} (hpp : ∀ r sg1, post r sg1 → post2 r (xPut segs is sg1)) : CtL l yL_tryLoad cL_tryLoad 2 [(0, 4, 5, 19)] (fr + 1) (8 + (2 + 11) + lo) [.ref xo] segs post2 G Y := by
  refine x_ofL (by decide) (Nat.le_of_ble_eq_true rfl) (fun p e s m args below meth c A ls Q M hK hZ hN hw hl htab hret => ?_)
  obtain ⟨hx, hb, -⟩ := id M
  have hl : lv_has ls 2 [(0, .ref xo)] := hl
  refine lv_aload_n hx hb dL_tryLoad_0 rfl (lv_at hl 0 rfl) ?_
  refine x_cVI2 (As := []) hC cw_L_34 is 0 0 M hK hZ hw hl.1 hs hnd hs0 rfl rfl ⟨Nat.le_refl _, Nat.le_refl _⟩ ⟨Nat.zero_le _, Nat.zero_le _⟩ rfl rfl (Nat.le_of_ble_eq_true rfl) dL_tryLoad_1 (fun r sg hp ha H locs hw => ?_)
  exact hret _ _ _ r _ _ 0 0 (by decide) (by decide) dL_tryLoad_4 hw (xPut_ads hs hnd ha) (hpp r sg hp)
set_option maxHeartbeats 1000000 in
theorem lt_tryLoad_eISE (l : Launch) (G : va_G) (Y : Nat → Nat) (xo : Nat)  {fs : List Value} {segs segsC : List va_W} (is : List Nat) {fr lo : Nat} (hC : CtT l yX5_load cX5_load 2 (some .int) fr lo [.ref xo] segsC eISE G Y) (hs0 : segs[0]? = some [(xo, .inr (4, fs))]) (hs : is.map (fun i => segs[i]?) = segsC.map some) (hnd : va_nd is = true) : CtL l yL_tryLoad cL_tryLoad 2 [(0, 4, 5, 19)] (fr + 1) (8 + (2 + 11) + lo) [.ref xo] segs (fun k sg => k = (-9999003) ∧ sg = segs) G Y := by
  refine x_ofL (by decide) (Nat.le_of_ble_eq_true rfl) (fun p e s m args below meth c A ls Q M hK hZ hN hw hl htab hret => ?_)
  obtain ⟨hx, hb, -⟩ := id M
  have hl : lv_has ls 2 [(0, .ref xo)] := hl
  refine lv_aload_n hx hb dL_tryLoad_0 rfl (lv_at hl 0 rfl) ?_
  refine x_catchV (As := []) (ri := 0) (rj := 0) (pre := []) (xh := { startPc := 0, endPc := 4, handlerPc := 5, catchType := 19 }) (suf := []) hC cw_L_34 is M hK hZ hw hl.1 hs hnd hs0 rfl rfl ⟨Nat.le_refl _, Nat.le_refl _⟩ ⟨Nat.le_refl _, Nat.le_refl _⟩ rfl rfl (Nat.le_of_ble_eq_true rfl) dL_tryLoad_1 (htab.trans rfl) (fun z hz => nomatch hz) (by decide) (by decide) mw_453 (cast_self (M.2.2.2.2 _ mw_464)) (fun q H locs hw => ?_)
  refine lv_astore_n (lv' := [(1, .ref q), (0, .ref xo)]) hx hb dL_tryLoad_5 rfl hl (by decide) rfl (fun ls hl => ?_)
  refine lv_ldc (v := (-9999003)) hx hb M.2.2.2.1 (M.2.2.2.2 _ mw_483) dL_tryLoad_6 ?_
  exact hret _ _ _ (-9999003) _ _ 1 6 (by decide) (by decide) dL_tryLoad_8 hw rfl ⟨rfl, rfl⟩
set_option maxHeartbeats 1000000 in
theorem lk_tryAbout (l : Launch) (G : va_G) (Y : Nat → Nat) (xo : Nat) (c1 : Int32) {fs : List Value} {segs segsC : List va_W} (is : List Nat) {post : Int32 → List va_W → Prop} {fr lo : Nat} (hC : CtI l yX5_about cX5_about 2 .int fr lo [.ref xo, .int c1] segsC post G Y) (hs0 : segs[0]? = some [(xo, .inr (4, fs))]) (hs : is.map (fun i => segs[i]?) = segsC.map some) (hnd : va_nd is = true) {post2 : Int32 → List va_W → Prop} (hpp : ∀ r sg1, post r sg1 → post2 r (xPut segs is sg1)) : CtL l yL_tryAbout cL_tryAbout 3 [(0, 5, 6, 16)] (fr + 1) (8 + (2 + 11) + lo) [.ref xo, .int c1] segs post2 G Y := by
  refine x_ofL (by decide) (Nat.le_of_ble_eq_true rfl) (fun p e s m args below meth c A ls Q M hK hZ hN hw hl htab hret => ?_)
  obtain ⟨hx, hb, -⟩ := id M
  have hl : lv_has ls 3 [(0, .ref xo), (1, .int c1)] := hl
  refine lv_aload_n hx hb dL_tryAbout_0 rfl (lv_at hl 0 rfl) ?_
  refine lv_iload_n hx hb dL_tryAbout_1 rfl (lv_at hl 1 rfl) ?_
  refine x_cVI2 (As := [.int c1]) hC cw_L_38 is 0 0 M hK hZ hw hl.1 hs hnd hs0 rfl rfl ⟨Nat.le_refl _, Nat.le_refl _⟩ ⟨Nat.zero_le _, Nat.zero_le _⟩ rfl rfl (Nat.le_of_ble_eq_true rfl) dL_tryAbout_2 (fun r sg hp ha H locs hw => ?_)
  exact hret _ _ _ r _ _ 0 0 (by decide) (by decide) dL_tryAbout_5 hw (xPut_ads hs hnd ha) (hpp r sg hp)
set_option maxHeartbeats 1000000 in
theorem lt_tryAbout_eIAE (l : Launch) (G : va_G) (Y : Nat → Nat) (xo : Nat) (c1 : Int32) {fs : List Value} {segs segsC : List va_W} (is : List Nat) {fr lo : Nat} (hC : CtT l yX5_about cX5_about 2 (some .int) fr lo [.ref xo, .int c1] segsC eIAE G Y) (hs0 : segs[0]? = some [(xo, .inr (4, fs))]) (hs : is.map (fun i => segs[i]?) = segsC.map some) (hnd : va_nd is = true) : CtL l yL_tryAbout cL_tryAbout 3 [(0, 5, 6, 16)] (fr + 1) (8 + (2 + 11) + lo) [.ref xo, .int c1] segs (fun k sg => k = (-9999002) ∧ sg = segs) G Y := by
  refine x_ofL (by decide) (Nat.le_of_ble_eq_true rfl) (fun p e s m args below meth c A ls Q M hK hZ hN hw hl htab hret => ?_)
  obtain ⟨hx, hb, -⟩ := id M
  have hl : lv_has ls 3 [(0, .ref xo), (1, .int c1)] := hl
  refine lv_aload_n hx hb dL_tryAbout_0 rfl (lv_at hl 0 rfl) ?_
  refine lv_iload_n hx hb dL_tryAbout_1 rfl (lv_at hl 1 rfl) ?_
  refine x_catchV (As := [.int c1]) (ri := 0) (rj := 0) (pre := []) (xh := { startPc := 0, endPc := 5, handlerPc := 6, catchType := 16 }) (suf := []) hC cw_L_38 is M hK hZ hw hl.1 hs hnd hs0 rfl rfl ⟨Nat.le_refl _, Nat.le_refl _⟩ ⟨Nat.le_refl _, Nat.le_refl _⟩ rfl rfl (Nat.le_of_ble_eq_true rfl) dL_tryAbout_2 (htab.trans rfl) (fun z hz => nomatch hz) (by decide) (by decide) mw_181 (cast_self (M.2.2.2.2 _ mw_190)) (fun q H locs hw => ?_)
  refine lv_astore_n (lv' := [(2, .ref q), (0, .ref xo), (1, .int c1)]) hx hb dL_tryAbout_6 rfl hl (by decide) rfl (fun ls hl => ?_)
  refine lv_ldc (v := (-9999002)) hx hb M.2.2.2.1 (M.2.2.2.2 _ mw_387) dL_tryAbout_7 ?_
  exact hret _ _ _ (-9999002) _ _ 1 6 (by decide) (by decide) dL_tryAbout_9 hw rfl ⟨rfl, rfl⟩
set_option maxHeartbeats 1000000 in
theorem lk_tryKind (l : Launch) (G : va_G) (Y : Nat → Nat) (xo : Nat) (c1 : Int32) (c2 : Int32) {fs : List Value} {segs segsC : List va_W} (is : List Nat) {post : Int32 → List va_W → Prop} {fr lo : Nat} (hC : CtI l yX5_kind cX5_kind 3 .int fr lo [.ref xo, .int c1, .int c2] segsC post G Y) (hs0 : segs[0]? = some [(xo, .inr (4, fs))]) (hs : is.map (fun i => segs[i]?) = segsC.map some) (hnd : va_nd is = true) {post2 : Int32 → List va_W → Prop} (hpp : ∀ r sg1, post r sg1 → post2 r (xPut segs is sg1)) : CtL l yL_tryKind cL_tryKind 4 [(0, 6, 7, 13), (0, 6, 11, 16)] (fr + 1) (8 + (3 + 11) + lo) [.ref xo, .int c1, .int c2] segs post2 G Y := by
  refine x_ofL (by decide) (Nat.le_of_ble_eq_true rfl) (fun p e s m args below meth c A ls Q M hK hZ hN hw hl htab hret => ?_)
  obtain ⟨hx, hb, -⟩ := id M
  have hl : lv_has ls 4 [(0, .ref xo), (1, .int c1), (2, .int c2)] := hl
  refine lv_aload_n hx hb dL_tryKind_0 rfl (lv_at hl 0 rfl) ?_
  refine lv_iload_n hx hb dL_tryKind_1 rfl (lv_at hl 1 rfl) ?_
  refine lv_iload_n hx hb dL_tryKind_2 rfl (lv_at hl 2 rfl) ?_
  refine x_cVI2 (As := [.int c1, .int c2]) hC cw_L_41 is 0 0 M hK hZ hw hl.1 hs hnd hs0 rfl rfl ⟨Nat.le_refl _, Nat.le_refl _⟩ ⟨Nat.zero_le _, Nat.zero_le _⟩ rfl rfl (Nat.le_of_ble_eq_true rfl) dL_tryKind_3 (fun r sg hp ha H locs hw => ?_)
  exact hret _ _ _ r _ _ 0 0 (by decide) (by decide) dL_tryKind_6 hw (xPut_ads hs hnd ha) (hpp r sg hp)
set_option maxHeartbeats 1000000 in
theorem lt_tryKind_eIOB (l : Launch) (G : va_G) (Y : Nat → Nat) (xo : Nat) (c1 : Int32) (c2 : Int32) {fs : List Value} {segs segsC : List va_W} (is : List Nat) {fr lo : Nat} (hC : CtT l yX5_kind cX5_kind 3 (some .int) fr lo [.ref xo, .int c1, .int c2] segsC eIOB G Y) (hs0 : segs[0]? = some [(xo, .inr (4, fs))]) (hs : is.map (fun i => segs[i]?) = segsC.map some) (hnd : va_nd is = true) : CtL l yL_tryKind cL_tryKind 4 [(0, 6, 7, 13), (0, 6, 11, 16)] (fr + 1) (8 + (3 + 11) + lo) [.ref xo, .int c1, .int c2] segs (fun k sg => k = (-9999001) ∧ sg = segs) G Y := by
  refine x_ofL (by decide) (Nat.le_of_ble_eq_true rfl) (fun p e s m args below meth c A ls Q M hK hZ hN hw hl htab hret => ?_)
  obtain ⟨hx, hb, -⟩ := id M
  have hl : lv_has ls 4 [(0, .ref xo), (1, .int c1), (2, .int c2)] := hl
  refine lv_aload_n hx hb dL_tryKind_0 rfl (lv_at hl 0 rfl) ?_
  refine lv_iload_n hx hb dL_tryKind_1 rfl (lv_at hl 1 rfl) ?_
  refine lv_iload_n hx hb dL_tryKind_2 rfl (lv_at hl 2 rfl) ?_
  refine x_catchV (As := [.int c1, .int c2]) (ri := 0) (rj := 0) (pre := []) (xh := { startPc := 0, endPc := 6, handlerPc := 7, catchType := 13 }) (suf := [{ startPc := 0, endPc := 6, handlerPc := 11, catchType := 16 }]) hC cw_L_41 is M hK hZ hw hl.1 hs hnd hs0 rfl rfl ⟨Nat.le_refl _, Nat.le_refl _⟩ ⟨Nat.le_refl _, Nat.le_refl _⟩ rfl rfl (Nat.le_of_ble_eq_true rfl) dL_tryKind_3 (htab.trans rfl) (fun z hz => nomatch hz) (by decide) (by decide) mw_683 (cast_self (M.2.2.2.2 _ mw_694)) (fun q H locs hw => ?_)
  refine lv_astore_n (lv' := [(3, .ref q), (0, .ref xo), (1, .int c1), (2, .int c2)]) hx hb dL_tryKind_7 rfl hl (by decide) rfl (fun ls hl => ?_)
  refine lv_ldc (v := (-9999001)) hx hb M.2.2.2.1 (M.2.2.2.2 _ mw_711) dL_tryKind_8 ?_
  exact hret _ _ _ (-9999001) _ _ 1 6 (by decide) (by decide) dL_tryKind_10 hw rfl ⟨rfl, rfl⟩
set_option maxHeartbeats 1000000 in
theorem lt_tryKind_eIAE (l : Launch) (G : va_G) (Y : Nat → Nat) (xo : Nat) (c1 : Int32) (c2 : Int32) {fs : List Value} {segs segsC : List va_W} (is : List Nat) {fr lo : Nat} (hC : CtT l yX5_kind cX5_kind 3 (some .int) fr lo [.ref xo, .int c1, .int c2] segsC eIAE G Y) (hs0 : segs[0]? = some [(xo, .inr (4, fs))]) (hs : is.map (fun i => segs[i]?) = segsC.map some) (hnd : va_nd is = true) : CtL l yL_tryKind cL_tryKind 4 [(0, 6, 7, 13), (0, 6, 11, 16)] (fr + 1) (8 + (3 + 11) + lo) [.ref xo, .int c1, .int c2] segs (fun k sg => k = (-9999002) ∧ sg = segs) G Y := by
  refine x_ofL (by decide) (Nat.le_of_ble_eq_true rfl) (fun p e s m args below meth c A ls Q M hK hZ hN hw hl htab hret => ?_)
  obtain ⟨hx, hb, -⟩ := id M
  have hl : lv_has ls 4 [(0, .ref xo), (1, .int c1), (2, .int c2)] := hl
  refine lv_aload_n hx hb dL_tryKind_0 rfl (lv_at hl 0 rfl) ?_
  refine lv_iload_n hx hb dL_tryKind_1 rfl (lv_at hl 1 rfl) ?_
  refine lv_iload_n hx hb dL_tryKind_2 rfl (lv_at hl 2 rfl) ?_
  refine x_catchV (As := [.int c1, .int c2]) (ri := 0) (rj := 0) (pre := [{ startPc := 0, endPc := 6, handlerPc := 7, catchType := 13 }]) (xh := { startPc := 0, endPc := 6, handlerPc := 11, catchType := 16 }) (suf := []) hC cw_L_41 is M hK hZ hw hl.1 hs hnd hs0 rfl rfl ⟨Nat.le_refl _, Nat.le_refl _⟩ ⟨Nat.le_refl _, Nat.le_refl _⟩ rfl rfl (Nat.le_of_ble_eq_true rfl) dL_tryKind_3 (htab.trans rfl) (fun z hz => by obtain rfl := List.mem_singleton.mp hz; exact Or.inr ⟨by decide, _, mw_683, hN.1⟩) (by decide) (by decide) mw_181 (cast_self (M.2.2.2.2 _ mw_190)) (fun q H locs hw => ?_)
  refine lv_astore_n (lv' := [(3, .ref q), (0, .ref xo), (1, .int c1), (2, .int c2)]) hx hb dL_tryKind_11 rfl hl (by decide) rfl (fun ls hl => ?_)
  refine lv_ldc (v := (-9999002)) hx hb M.2.2.2.1 (M.2.2.2.2 _ mw_387) dL_tryKind_12 ?_
  exact hret _ _ _ (-9999002) _ _ 1 6 (by decide) (by decide) dL_tryKind_14 hw rfl ⟨rfl, rfl⟩
set_option maxHeartbeats 1000000 in
theorem lk_tryBidder (l : Launch) (G : va_G) (Y : Nat → Nat) (xo : Nat) (c1 : Int32) (c2 : Int32) {fs : List Value} {segs segsC : List va_W} (is : List Nat) {post : Int32 → List va_W → Prop} {fr lo : Nat} (hC : CtI l yX5_bidder cX5_bidder 3 .int fr lo [.ref xo, .int c1, .int c2] segsC post G Y) (hs0 : segs[0]? = some [(xo, .inr (4, fs))]) (hs : is.map (fun i => segs[i]?) = segsC.map some) (hnd : va_nd is = true) {post2 : Int32 → List va_W → Prop} (hpp : ∀ r sg1, post r sg1 → post2 r (xPut segs is sg1)) : CtL l yL_tryBidder cL_tryBidder 4 [(0, 6, 7, 13), (0, 6, 11, 16)] (fr + 1) (8 + (3 + 11) + lo) [.ref xo, .int c1, .int c2] segs post2 G Y := by
  refine x_ofL (by decide) (Nat.le_of_ble_eq_true rfl) (fun p e s m args below meth c A ls Q M hK hZ hN hw hl htab hret => ?_)
  obtain ⟨hx, hb, -⟩ := id M
  have hl : lv_has ls 4 [(0, .ref xo), (1, .int c1), (2, .int c2)] := hl
  refine lv_aload_n hx hb dL_tryBidder_0 rfl (lv_at hl 0 rfl) ?_
  refine lv_iload_n hx hb dL_tryBidder_1 rfl (lv_at hl 1 rfl) ?_
  refine lv_iload_n hx hb dL_tryBidder_2 rfl (lv_at hl 2 rfl) ?_
  refine x_cVI2 (As := [.int c1, .int c2]) hC cw_L_45 is 0 0 M hK hZ hw hl.1 hs hnd hs0 rfl rfl ⟨Nat.le_refl _, Nat.le_refl _⟩ ⟨Nat.zero_le _, Nat.zero_le _⟩ rfl rfl (Nat.le_of_ble_eq_true rfl) dL_tryBidder_3 (fun r sg hp ha H locs hw => ?_)
  exact hret _ _ _ r _ _ 0 0 (by decide) (by decide) dL_tryBidder_6 hw (xPut_ads hs hnd ha) (hpp r sg hp)
set_option maxHeartbeats 1000000 in
theorem lt_tryBidder_eIOB (l : Launch) (G : va_G) (Y : Nat → Nat) (xo : Nat) (c1 : Int32) (c2 : Int32) {fs : List Value} {segs segsC : List va_W} (is : List Nat) {fr lo : Nat} (hC : CtT l yX5_bidder cX5_bidder 3 (some .int) fr lo [.ref xo, .int c1, .int c2] segsC eIOB G Y) (hs0 : segs[0]? = some [(xo, .inr (4, fs))]) (hs : is.map (fun i => segs[i]?) = segsC.map some) (hnd : va_nd is = true) : CtL l yL_tryBidder cL_tryBidder 4 [(0, 6, 7, 13), (0, 6, 11, 16)] (fr + 1) (8 + (3 + 11) + lo) [.ref xo, .int c1, .int c2] segs (fun k sg => k = (-9999001) ∧ sg = segs) G Y := by
  refine x_ofL (by decide) (Nat.le_of_ble_eq_true rfl) (fun p e s m args below meth c A ls Q M hK hZ hN hw hl htab hret => ?_)
  obtain ⟨hx, hb, -⟩ := id M
  have hl : lv_has ls 4 [(0, .ref xo), (1, .int c1), (2, .int c2)] := hl
  refine lv_aload_n hx hb dL_tryBidder_0 rfl (lv_at hl 0 rfl) ?_
  refine lv_iload_n hx hb dL_tryBidder_1 rfl (lv_at hl 1 rfl) ?_
  refine lv_iload_n hx hb dL_tryBidder_2 rfl (lv_at hl 2 rfl) ?_
  refine x_catchV (As := [.int c1, .int c2]) (ri := 0) (rj := 0) (pre := []) (xh := { startPc := 0, endPc := 6, handlerPc := 7, catchType := 13 }) (suf := [{ startPc := 0, endPc := 6, handlerPc := 11, catchType := 16 }]) hC cw_L_45 is M hK hZ hw hl.1 hs hnd hs0 rfl rfl ⟨Nat.le_refl _, Nat.le_refl _⟩ ⟨Nat.le_refl _, Nat.le_refl _⟩ rfl rfl (Nat.le_of_ble_eq_true rfl) dL_tryBidder_3 (htab.trans rfl) (fun z hz => nomatch hz) (by decide) (by decide) mw_683 (cast_self (M.2.2.2.2 _ mw_694)) (fun q H locs hw => ?_)
  refine lv_astore_n (lv' := [(3, .ref q), (0, .ref xo), (1, .int c1), (2, .int c2)]) hx hb dL_tryBidder_7 rfl hl (by decide) rfl (fun ls hl => ?_)
  refine lv_ldc (v := (-9999001)) hx hb M.2.2.2.1 (M.2.2.2.2 _ mw_711) dL_tryBidder_8 ?_
  exact hret _ _ _ (-9999001) _ _ 1 6 (by decide) (by decide) dL_tryBidder_10 hw rfl ⟨rfl, rfl⟩
set_option maxHeartbeats 1000000 in
theorem lt_tryBidder_eIAE (l : Launch) (G : va_G) (Y : Nat → Nat) (xo : Nat) (c1 : Int32) (c2 : Int32) {fs : List Value} {segs segsC : List va_W} (is : List Nat) {fr lo : Nat} (hC : CtT l yX5_bidder cX5_bidder 3 (some .int) fr lo [.ref xo, .int c1, .int c2] segsC eIAE G Y) (hs0 : segs[0]? = some [(xo, .inr (4, fs))]) (hs : is.map (fun i => segs[i]?) = segsC.map some) (hnd : va_nd is = true) : CtL l yL_tryBidder cL_tryBidder 4 [(0, 6, 7, 13), (0, 6, 11, 16)] (fr + 1) (8 + (3 + 11) + lo) [.ref xo, .int c1, .int c2] segs (fun k sg => k = (-9999002) ∧ sg = segs) G Y := by
  refine x_ofL (by decide) (Nat.le_of_ble_eq_true rfl) (fun p e s m args below meth c A ls Q M hK hZ hN hw hl htab hret => ?_)
  obtain ⟨hx, hb, -⟩ := id M
  have hl : lv_has ls 4 [(0, .ref xo), (1, .int c1), (2, .int c2)] := hl
  refine lv_aload_n hx hb dL_tryBidder_0 rfl (lv_at hl 0 rfl) ?_
  refine lv_iload_n hx hb dL_tryBidder_1 rfl (lv_at hl 1 rfl) ?_
  refine lv_iload_n hx hb dL_tryBidder_2 rfl (lv_at hl 2 rfl) ?_
  refine x_catchV (As := [.int c1, .int c2]) (ri := 0) (rj := 0) (pre := [{ startPc := 0, endPc := 6, handlerPc := 7, catchType := 13 }]) (xh := { startPc := 0, endPc := 6, handlerPc := 11, catchType := 16 }) (suf := []) hC cw_L_45 is M hK hZ hw hl.1 hs hnd hs0 rfl rfl ⟨Nat.le_refl _, Nat.le_refl _⟩ ⟨Nat.le_refl _, Nat.le_refl _⟩ rfl rfl (Nat.le_of_ble_eq_true rfl) dL_tryBidder_3 (htab.trans rfl) (fun z hz => by obtain rfl := List.mem_singleton.mp hz; exact Or.inr ⟨by decide, _, mw_683, hN.1⟩) (by decide) (by decide) mw_181 (cast_self (M.2.2.2.2 _ mw_190)) (fun q H locs hw => ?_)
  refine lv_astore_n (lv' := [(3, .ref q), (0, .ref xo), (1, .int c1), (2, .int c2)]) hx hb dL_tryBidder_11 rfl hl (by decide) rfl (fun ls hl => ?_)
  refine lv_ldc (v := (-9999002)) hx hb M.2.2.2.1 (M.2.2.2.2 _ mw_387) dL_tryBidder_12 ?_
  exact hret _ _ _ (-9999002) _ _ 1 6 (by decide) (by decide) dL_tryBidder_14 hw rfl ⟨rfl, rfl⟩
set_option maxHeartbeats 1000000 in
theorem lk_tryDemand (l : Launch) (G : va_G) (Y : Nat → Nat) (xo : Nat) (c1 : Int32) (c2 : Int32) {fs : List Value} {segs segsC : List va_W} (is : List Nat) {post : Int32 → List va_W → Prop} {fr lo : Nat} (hC : CtI l yX5_demand cX5_demand 3 .int fr lo [.ref xo, .int c1, .int c2] segsC post G Y) (hs0 : segs[0]? = some [(xo, .inr (4, fs))]) (hs : is.map (fun i => segs[i]?) = segsC.map some) (hnd : va_nd is = true) {post2 : Int32 → List va_W → Prop} (hpp : ∀ r sg1, post r sg1 → post2 r (xPut segs is sg1)) : CtL l yL_tryDemand cL_tryDemand 4 [(0, 6, 7, 13)] (fr + 1) (8 + (3 + 11) + lo) [.ref xo, .int c1, .int c2] segs post2 G Y := by
  refine x_ofL (by decide) (Nat.le_of_ble_eq_true rfl) (fun p e s m args below meth c A ls Q M hK hZ hN hw hl htab hret => ?_)
  obtain ⟨hx, hb, -⟩ := id M
  have hl : lv_has ls 4 [(0, .ref xo), (1, .int c1), (2, .int c2)] := hl
  refine lv_aload_n hx hb dL_tryDemand_0 rfl (lv_at hl 0 rfl) ?_
  refine lv_iload_n hx hb dL_tryDemand_1 rfl (lv_at hl 1 rfl) ?_
  refine lv_iload_n hx hb dL_tryDemand_2 rfl (lv_at hl 2 rfl) ?_
  refine x_cVI2 (As := [.int c1, .int c2]) hC cw_L_48 is 0 0 M hK hZ hw hl.1 hs hnd hs0 rfl rfl ⟨Nat.le_refl _, Nat.le_refl _⟩ ⟨Nat.zero_le _, Nat.zero_le _⟩ rfl rfl (Nat.le_of_ble_eq_true rfl) dL_tryDemand_3 (fun r sg hp ha H locs hw => ?_)
  exact hret _ _ _ r _ _ 0 0 (by decide) (by decide) dL_tryDemand_6 hw (xPut_ads hs hnd ha) (hpp r sg hp)
set_option maxHeartbeats 1000000 in
theorem lt_tryDemand_eIOB (l : Launch) (G : va_G) (Y : Nat → Nat) (xo : Nat) (c1 : Int32) (c2 : Int32) {fs : List Value} {segs segsC : List va_W} (is : List Nat) {fr lo : Nat} (hC : CtT l yX5_demand cX5_demand 3 (some .int) fr lo [.ref xo, .int c1, .int c2] segsC eIOB G Y) (hs0 : segs[0]? = some [(xo, .inr (4, fs))]) (hs : is.map (fun i => segs[i]?) = segsC.map some) (hnd : va_nd is = true) : CtL l yL_tryDemand cL_tryDemand 4 [(0, 6, 7, 13)] (fr + 1) (8 + (3 + 11) + lo) [.ref xo, .int c1, .int c2] segs (fun k sg => k = (-9999001) ∧ sg = segs) G Y := by
  refine x_ofL (by decide) (Nat.le_of_ble_eq_true rfl) (fun p e s m args below meth c A ls Q M hK hZ hN hw hl htab hret => ?_)
  obtain ⟨hx, hb, -⟩ := id M
  have hl : lv_has ls 4 [(0, .ref xo), (1, .int c1), (2, .int c2)] := hl
  refine lv_aload_n hx hb dL_tryDemand_0 rfl (lv_at hl 0 rfl) ?_
  refine lv_iload_n hx hb dL_tryDemand_1 rfl (lv_at hl 1 rfl) ?_
  refine lv_iload_n hx hb dL_tryDemand_2 rfl (lv_at hl 2 rfl) ?_
  refine x_catchV (As := [.int c1, .int c2]) (ri := 0) (rj := 0) (pre := []) (xh := { startPc := 0, endPc := 6, handlerPc := 7, catchType := 13 }) (suf := []) hC cw_L_48 is M hK hZ hw hl.1 hs hnd hs0 rfl rfl ⟨Nat.le_refl _, Nat.le_refl _⟩ ⟨Nat.le_refl _, Nat.le_refl _⟩ rfl rfl (Nat.le_of_ble_eq_true rfl) dL_tryDemand_3 (htab.trans rfl) (fun z hz => nomatch hz) (by decide) (by decide) mw_683 (cast_self (M.2.2.2.2 _ mw_694)) (fun q H locs hw => ?_)
  refine lv_astore_n (lv' := [(3, .ref q), (0, .ref xo), (1, .int c1), (2, .int c2)]) hx hb dL_tryDemand_7 rfl hl (by decide) rfl (fun ls hl => ?_)
  refine lv_ldc (v := (-9999001)) hx hb M.2.2.2.1 (M.2.2.2.2 _ mw_711) dL_tryDemand_8 ?_
  exact hret _ _ _ (-9999001) _ _ 1 6 (by decide) (by decide) dL_tryDemand_10 hw rfl ⟨rfl, rfl⟩
set_option maxHeartbeats 1000000 in
theorem lk_tryPack (l : Launch) (G : va_G) (Y : Nat → Nat) (xo : Nat) (c1 : Int32) (c2 : Int32) (c3 : Int32) {fs : List Value} {segs segsC : List va_W} (is : List Nat) {post : Int32 → List va_W → Prop} {fr lo : Nat} (hC : CtI l yX5_pack cX5_pack 4 .int fr lo [.ref xo, .int c1, .int c2, .int c3] segsC post G Y) (hs0 : segs[0]? = some [(xo, .inr (4, fs))]) (hs : is.map (fun i => segs[i]?) = segsC.map some) (hnd : va_nd is = true) {post2 : Int32 → List va_W → Prop} (hpp : ∀ r sg1, post r sg1 → post2 r (xPut segs is sg1)) : CtL l yL_tryPack cL_tryPack 5 [(0, 7, 8, 13), (0, 7, 13, 16)] (fr + 1) (8 + (4 + 11) + lo) [.ref xo, .int c1, .int c2, .int c3] segs post2 G Y := by
  refine x_ofL (by decide) (Nat.le_of_ble_eq_true rfl) (fun p e s m args below meth c A ls Q M hK hZ hN hw hl htab hret => ?_)
  obtain ⟨hx, hb, -⟩ := id M
  have hl : lv_has ls 5 [(0, .ref xo), (1, .int c1), (2, .int c2), (3, .int c3)] := hl
  refine lv_aload_n hx hb dL_tryPack_0 rfl (lv_at hl 0 rfl) ?_
  refine lv_iload_n hx hb dL_tryPack_1 rfl (lv_at hl 1 rfl) ?_
  refine lv_iload_n hx hb dL_tryPack_2 rfl (lv_at hl 2 rfl) ?_
  refine lv_iload_n hx hb dL_tryPack_3 rfl (lv_at hl 3 rfl) ?_
  refine x_cVI2 (As := [.int c1, .int c2, .int c3]) hC cw_L_51 is 0 0 M hK hZ hw hl.1 hs hnd hs0 rfl rfl ⟨Nat.le_refl _, Nat.le_refl _⟩ ⟨Nat.zero_le _, Nat.zero_le _⟩ rfl rfl (Nat.le_of_ble_eq_true rfl) dL_tryPack_4 (fun r sg hp ha H locs hw => ?_)
  exact hret _ _ _ r _ _ 0 0 (by decide) (by decide) dL_tryPack_7 hw (xPut_ads hs hnd ha) (hpp r sg hp)
set_option maxHeartbeats 1000000 in
theorem lt_tryPack_eIOB (l : Launch) (G : va_G) (Y : Nat → Nat) (xo : Nat) (c1 : Int32) (c2 : Int32) (c3 : Int32) {fs : List Value} {segs segsC : List va_W} (is : List Nat) {fr lo : Nat} (hC : CtT l yX5_pack cX5_pack 4 (some .int) fr lo [.ref xo, .int c1, .int c2, .int c3] segsC eIOB G Y) (hs0 : segs[0]? = some [(xo, .inr (4, fs))]) (hs : is.map (fun i => segs[i]?) = segsC.map some) (hnd : va_nd is = true) : CtL l yL_tryPack cL_tryPack 5 [(0, 7, 8, 13), (0, 7, 13, 16)] (fr + 1) (8 + (4 + 11) + lo) [.ref xo, .int c1, .int c2, .int c3] segs (fun k sg => k = (-9999001) ∧ sg = segs) G Y := by
  refine x_ofL (by decide) (Nat.le_of_ble_eq_true rfl) (fun p e s m args below meth c A ls Q M hK hZ hN hw hl htab hret => ?_)
  obtain ⟨hx, hb, -⟩ := id M
  have hl : lv_has ls 5 [(0, .ref xo), (1, .int c1), (2, .int c2), (3, .int c3)] := hl
  refine lv_aload_n hx hb dL_tryPack_0 rfl (lv_at hl 0 rfl) ?_
  refine lv_iload_n hx hb dL_tryPack_1 rfl (lv_at hl 1 rfl) ?_
  refine lv_iload_n hx hb dL_tryPack_2 rfl (lv_at hl 2 rfl) ?_
  refine lv_iload_n hx hb dL_tryPack_3 rfl (lv_at hl 3 rfl) ?_
  refine x_catchV (As := [.int c1, .int c2, .int c3]) (ri := 0) (rj := 0) (pre := []) (xh := { startPc := 0, endPc := 7, handlerPc := 8, catchType := 13 }) (suf := [{ startPc := 0, endPc := 7, handlerPc := 13, catchType := 16 }]) hC cw_L_51 is M hK hZ hw hl.1 hs hnd hs0 rfl rfl ⟨Nat.le_refl _, Nat.le_refl _⟩ ⟨Nat.le_refl _, Nat.le_refl _⟩ rfl rfl (Nat.le_of_ble_eq_true rfl) dL_tryPack_4 (htab.trans rfl) (fun z hz => nomatch hz) (by decide) (by decide) mw_683 (cast_self (M.2.2.2.2 _ mw_694)) (fun q H locs hw => ?_)
  refine lv_astore (lv' := [(4, .ref q), (0, .ref xo), (1, .int c1), (2, .int c2), (3, .int c3)]) hx hb dL_tryPack_8 hl (by decide) rfl (fun ls hl => ?_)
  refine lv_ldc (v := (-9999001)) hx hb M.2.2.2.1 (M.2.2.2.2 _ mw_711) dL_tryPack_10 ?_
  exact hret _ _ _ (-9999001) _ _ 1 6 (by decide) (by decide) dL_tryPack_12 hw rfl ⟨rfl, rfl⟩
set_option maxHeartbeats 1000000 in
theorem lt_tryPack_eIAE (l : Launch) (G : va_G) (Y : Nat → Nat) (xo : Nat) (c1 : Int32) (c2 : Int32) (c3 : Int32) {fs : List Value} {segs segsC : List va_W} (is : List Nat) {fr lo : Nat} (hC : CtT l yX5_pack cX5_pack 4 (some .int) fr lo [.ref xo, .int c1, .int c2, .int c3] segsC eIAE G Y) (hs0 : segs[0]? = some [(xo, .inr (4, fs))]) (hs : is.map (fun i => segs[i]?) = segsC.map some) (hnd : va_nd is = true) : CtL l yL_tryPack cL_tryPack 5 [(0, 7, 8, 13), (0, 7, 13, 16)] (fr + 1) (8 + (4 + 11) + lo) [.ref xo, .int c1, .int c2, .int c3] segs (fun k sg => k = (-9999002) ∧ sg = segs) G Y := by
  refine x_ofL (by decide) (Nat.le_of_ble_eq_true rfl) (fun p e s m args below meth c A ls Q M hK hZ hN hw hl htab hret => ?_)
  obtain ⟨hx, hb, -⟩ := id M
  have hl : lv_has ls 5 [(0, .ref xo), (1, .int c1), (2, .int c2), (3, .int c3)] := hl
  refine lv_aload_n hx hb dL_tryPack_0 rfl (lv_at hl 0 rfl) ?_
  refine lv_iload_n hx hb dL_tryPack_1 rfl (lv_at hl 1 rfl) ?_
  refine lv_iload_n hx hb dL_tryPack_2 rfl (lv_at hl 2 rfl) ?_
  refine lv_iload_n hx hb dL_tryPack_3 rfl (lv_at hl 3 rfl) ?_
  refine x_catchV (As := [.int c1, .int c2, .int c3]) (ri := 0) (rj := 0) (pre := [{ startPc := 0, endPc := 7, handlerPc := 8, catchType := 13 }]) (xh := { startPc := 0, endPc := 7, handlerPc := 13, catchType := 16 }) (suf := []) hC cw_L_51 is M hK hZ hw hl.1 hs hnd hs0 rfl rfl ⟨Nat.le_refl _, Nat.le_refl _⟩ ⟨Nat.le_refl _, Nat.le_refl _⟩ rfl rfl (Nat.le_of_ble_eq_true rfl) dL_tryPack_4 (htab.trans rfl) (fun z hz => by obtain rfl := List.mem_singleton.mp hz; exact Or.inr ⟨by decide, _, mw_683, hN.1⟩) (by decide) (by decide) mw_181 (cast_self (M.2.2.2.2 _ mw_190)) (fun q H locs hw => ?_)
  refine lv_astore (lv' := [(4, .ref q), (0, .ref xo), (1, .int c1), (2, .int c2), (3, .int c3)]) hx hb dL_tryPack_13 hl (by decide) rfl (fun ls hl => ?_)
  refine lv_ldc (v := (-9999002)) hx hb M.2.2.2.1 (M.2.2.2.2 _ mw_387) dL_tryPack_15 ?_
  exact hret _ _ _ (-9999002) _ _ 1 6 (by decide) (by decide) dL_tryPack_17 hw rfl ⟨rfl, rfl⟩
set_option maxHeartbeats 1000000 in
theorem lk_trySetting (l : Launch) (G : va_G) (Y : Nat → Nat) (xo : Nat) (c1 : Int32) {fs : List Value} {segs segsC : List va_W} (is : List Nat) {post : Int32 → List va_W → Prop} {fr lo : Nat} (hC : CtI l yX5_setting cX5_setting 2 .int fr lo [.ref xo, .int c1] segsC post G Y) (hs0 : segs[0]? = some [(xo, .inr (4, fs))]) (hs : is.map (fun i => segs[i]?) = segsC.map some) (hnd : va_nd is = true) {post2 : Int32 → List va_W → Prop} (hpp : ∀ r sg1, post r sg1 → post2 r (xPut segs is sg1)) : CtL l yL_trySetting cL_trySetting 3 [(0, 5, 6, 16)] (fr + 1) (8 + (2 + 11) + lo) [.ref xo, .int c1] segs post2 G Y := by
  refine x_ofL (by decide) (Nat.le_of_ble_eq_true rfl) (fun p e s m args below meth c A ls Q M hK hZ hN hw hl htab hret => ?_)
  obtain ⟨hx, hb, -⟩ := id M
  have hl : lv_has ls 3 [(0, .ref xo), (1, .int c1)] := hl
  refine lv_aload_n hx hb dL_trySetting_0 rfl (lv_at hl 0 rfl) ?_
  refine lv_iload_n hx hb dL_trySetting_1 rfl (lv_at hl 1 rfl) ?_
  refine x_cVI2 (As := [.int c1]) hC cw_L_55 is 0 0 M hK hZ hw hl.1 hs hnd hs0 rfl rfl ⟨Nat.le_refl _, Nat.le_refl _⟩ ⟨Nat.zero_le _, Nat.zero_le _⟩ rfl rfl (Nat.le_of_ble_eq_true rfl) dL_trySetting_2 (fun r sg hp ha H locs hw => ?_)
  exact hret _ _ _ r _ _ 0 0 (by decide) (by decide) dL_trySetting_5 hw (xPut_ads hs hnd ha) (hpp r sg hp)
set_option maxHeartbeats 1000000 in
theorem lt_trySetting_eIAE (l : Launch) (G : va_G) (Y : Nat → Nat) (xo : Nat) (c1 : Int32) {fs : List Value} {segs segsC : List va_W} (is : List Nat) {fr lo : Nat} (hC : CtT l yX5_setting cX5_setting 2 (some .int) fr lo [.ref xo, .int c1] segsC eIAE G Y) (hs0 : segs[0]? = some [(xo, .inr (4, fs))]) (hs : is.map (fun i => segs[i]?) = segsC.map some) (hnd : va_nd is = true) : CtL l yL_trySetting cL_trySetting 3 [(0, 5, 6, 16)] (fr + 1) (8 + (2 + 11) + lo) [.ref xo, .int c1] segs (fun k sg => k = (-9999002) ∧ sg = segs) G Y := by
  refine x_ofL (by decide) (Nat.le_of_ble_eq_true rfl) (fun p e s m args below meth c A ls Q M hK hZ hN hw hl htab hret => ?_)
  obtain ⟨hx, hb, -⟩ := id M
  have hl : lv_has ls 3 [(0, .ref xo), (1, .int c1)] := hl
  refine lv_aload_n hx hb dL_trySetting_0 rfl (lv_at hl 0 rfl) ?_
  refine lv_iload_n hx hb dL_trySetting_1 rfl (lv_at hl 1 rfl) ?_
  refine x_catchV (As := [.int c1]) (ri := 0) (rj := 0) (pre := []) (xh := { startPc := 0, endPc := 5, handlerPc := 6, catchType := 16 }) (suf := []) hC cw_L_55 is M hK hZ hw hl.1 hs hnd hs0 rfl rfl ⟨Nat.le_refl _, Nat.le_refl _⟩ ⟨Nat.le_refl _, Nat.le_refl _⟩ rfl rfl (Nat.le_of_ble_eq_true rfl) dL_trySetting_2 (htab.trans rfl) (fun z hz => nomatch hz) (by decide) (by decide) mw_181 (cast_self (M.2.2.2.2 _ mw_190)) (fun q H locs hw => ?_)
  refine lv_astore_n (lv' := [(2, .ref q), (0, .ref xo), (1, .int c1)]) hx hb dL_trySetting_6 rfl hl (by decide) rfl (fun ls hl => ?_)
  refine lv_ldc (v := (-9999002)) hx hb M.2.2.2.1 (M.2.2.2.2 _ mw_387) dL_trySetting_7 ?_
  exact hret _ _ _ (-9999002) _ _ 1 6 (by decide) (by decide) dL_trySetting_9 hw rfl ⟨rfl, rfl⟩
set_option maxHeartbeats 1000000 in
theorem lk_tryOffer (l : Launch) (G : va_G) (Y : Nat → Nat) (xo : Nat) (c1 : Int32) (c2 : Int32) (c3 : Int32) {fs : List Value} {segs segsC : List va_W} (is : List Nat) {post : Int32 → List va_W → Prop} {fr lo : Nat} (hC : CtI l yX5_offer cX5_offer 5 .int fr lo [.ref xo, .int c1, .int c2, .int c3] segsC post G Y) (hs0 : segs[0]? = some [(xo, .inr (4, fs))]) (hs : is.map (fun i => segs[i]?) = segsC.map some) (hnd : va_nd is = true) {post2 : Int32 → List va_W → Prop} (hpp : ∀ r sg1, post r sg1 → post2 r (xPut segs is sg1)) : CtL l yL_tryOffer cL_tryOffer 5 [(0, 7, 8, 13), (0, 7, 13, 16), (0, 7, 18, 19)] (fr + 1) (8 + (5 + 11) + lo) [.ref xo, .int c1, .int c2, .int c3] segs post2 G Y := by
  refine x_ofL (by decide) (Nat.le_of_ble_eq_true rfl) (fun p e s m args below meth c A ls Q M hK hZ hN hw hl htab hret => ?_)
  obtain ⟨hx, hb, -⟩ := id M
  have hl : lv_has ls 5 [(0, .ref xo), (1, .int c1), (2, .int c2), (3, .int c3)] := hl
  refine lv_aload_n hx hb dL_tryOffer_0 rfl (lv_at hl 0 rfl) ?_
  refine lv_iload_n hx hb dL_tryOffer_1 rfl (lv_at hl 1 rfl) ?_
  refine lv_iload_n hx hb dL_tryOffer_2 rfl (lv_at hl 2 rfl) ?_
  refine lv_iload_n hx hb dL_tryOffer_3 rfl (lv_at hl 3 rfl) ?_
  refine x_cVI2 (As := [.int c1, .int c2, .int c3]) hC cw_L_58 is 0 0 M hK hZ hw hl.1 hs hnd hs0 rfl rfl ⟨Nat.le_refl _, Nat.le_refl _⟩ ⟨Nat.zero_le _, Nat.zero_le _⟩ rfl rfl (Nat.le_of_ble_eq_true rfl) dL_tryOffer_4 (fun r sg hp ha H locs hw => ?_)
  exact hret _ _ _ r _ _ 0 0 (by decide) (by decide) dL_tryOffer_7 hw (xPut_ads hs hnd ha) (hpp r sg hp)
set_option maxHeartbeats 1000000 in
theorem lt_tryOffer_eIOB (l : Launch) (G : va_G) (Y : Nat → Nat) (xo : Nat) (c1 : Int32) (c2 : Int32) (c3 : Int32) {fs : List Value} {segs segsC : List va_W} (is : List Nat) {fr lo : Nat} (hC : CtT l yX5_offer cX5_offer 5 (some .int) fr lo [.ref xo, .int c1, .int c2, .int c3] segsC eIOB G Y) (hs0 : segs[0]? = some [(xo, .inr (4, fs))]) (hs : is.map (fun i => segs[i]?) = segsC.map some) (hnd : va_nd is = true) : CtL l yL_tryOffer cL_tryOffer 5 [(0, 7, 8, 13), (0, 7, 13, 16), (0, 7, 18, 19)] (fr + 1) (8 + (5 + 11) + lo) [.ref xo, .int c1, .int c2, .int c3] segs (fun k sg => k = (-9999001) ∧ sg = segs) G Y := by
  refine x_ofL (by decide) (Nat.le_of_ble_eq_true rfl) (fun p e s m args below meth c A ls Q M hK hZ hN hw hl htab hret => ?_)
  obtain ⟨hx, hb, -⟩ := id M
  have hl : lv_has ls 5 [(0, .ref xo), (1, .int c1), (2, .int c2), (3, .int c3)] := hl
  refine lv_aload_n hx hb dL_tryOffer_0 rfl (lv_at hl 0 rfl) ?_
  refine lv_iload_n hx hb dL_tryOffer_1 rfl (lv_at hl 1 rfl) ?_
  refine lv_iload_n hx hb dL_tryOffer_2 rfl (lv_at hl 2 rfl) ?_
  refine lv_iload_n hx hb dL_tryOffer_3 rfl (lv_at hl 3 rfl) ?_
  refine x_catchV (As := [.int c1, .int c2, .int c3]) (ri := 0) (rj := 0) (pre := []) (xh := { startPc := 0, endPc := 7, handlerPc := 8, catchType := 13 }) (suf := [{ startPc := 0, endPc := 7, handlerPc := 13, catchType := 16 }, { startPc := 0, endPc := 7, handlerPc := 18, catchType := 19 }]) hC cw_L_58 is M hK hZ hw hl.1 hs hnd hs0 rfl rfl ⟨Nat.le_refl _, Nat.le_refl _⟩ ⟨Nat.le_refl _, Nat.le_refl _⟩ rfl rfl (Nat.le_of_ble_eq_true rfl) dL_tryOffer_4 (htab.trans rfl) (fun z hz => nomatch hz) (by decide) (by decide) mw_683 (cast_self (M.2.2.2.2 _ mw_694)) (fun q H locs hw => ?_)
  refine lv_astore (lv' := [(4, .ref q), (0, .ref xo), (1, .int c1), (2, .int c2), (3, .int c3)]) hx hb dL_tryOffer_8 hl (by decide) rfl (fun ls hl => ?_)
  refine lv_ldc (v := (-9999001)) hx hb M.2.2.2.1 (M.2.2.2.2 _ mw_711) dL_tryOffer_10 ?_
  exact hret _ _ _ (-9999001) _ _ 1 6 (by decide) (by decide) dL_tryOffer_12 hw rfl ⟨rfl, rfl⟩
set_option maxHeartbeats 1000000 in
theorem lt_tryOffer_eIAE (l : Launch) (G : va_G) (Y : Nat → Nat) (xo : Nat) (c1 : Int32) (c2 : Int32) (c3 : Int32) {fs : List Value} {segs segsC : List va_W} (is : List Nat) {fr lo : Nat} (hC : CtT l yX5_offer cX5_offer 5 (some .int) fr lo [.ref xo, .int c1, .int c2, .int c3] segsC eIAE G Y) (hs0 : segs[0]? = some [(xo, .inr (4, fs))]) (hs : is.map (fun i => segs[i]?) = segsC.map some) (hnd : va_nd is = true) : CtL l yL_tryOffer cL_tryOffer 5 [(0, 7, 8, 13), (0, 7, 13, 16), (0, 7, 18, 19)] (fr + 1) (8 + (5 + 11) + lo) [.ref xo, .int c1, .int c2, .int c3] segs (fun k sg => k = (-9999002) ∧ sg = segs) G Y := by
  refine x_ofL (by decide) (Nat.le_of_ble_eq_true rfl) (fun p e s m args below meth c A ls Q M hK hZ hN hw hl htab hret => ?_)
  obtain ⟨hx, hb, -⟩ := id M
  have hl : lv_has ls 5 [(0, .ref xo), (1, .int c1), (2, .int c2), (3, .int c3)] := hl
  refine lv_aload_n hx hb dL_tryOffer_0 rfl (lv_at hl 0 rfl) ?_
  refine lv_iload_n hx hb dL_tryOffer_1 rfl (lv_at hl 1 rfl) ?_
  refine lv_iload_n hx hb dL_tryOffer_2 rfl (lv_at hl 2 rfl) ?_
  refine lv_iload_n hx hb dL_tryOffer_3 rfl (lv_at hl 3 rfl) ?_
  refine x_catchV (As := [.int c1, .int c2, .int c3]) (ri := 0) (rj := 0) (pre := [{ startPc := 0, endPc := 7, handlerPc := 8, catchType := 13 }]) (xh := { startPc := 0, endPc := 7, handlerPc := 13, catchType := 16 }) (suf := [{ startPc := 0, endPc := 7, handlerPc := 18, catchType := 19 }]) hC cw_L_58 is M hK hZ hw hl.1 hs hnd hs0 rfl rfl ⟨Nat.le_refl _, Nat.le_refl _⟩ ⟨Nat.le_refl _, Nat.le_refl _⟩ rfl rfl (Nat.le_of_ble_eq_true rfl) dL_tryOffer_4 (htab.trans rfl) (fun z hz => by obtain rfl := List.mem_singleton.mp hz; exact Or.inr ⟨by decide, _, mw_683, hN.1⟩) (by decide) (by decide) mw_181 (cast_self (M.2.2.2.2 _ mw_190)) (fun q H locs hw => ?_)
  refine lv_astore (lv' := [(4, .ref q), (0, .ref xo), (1, .int c1), (2, .int c2), (3, .int c3)]) hx hb dL_tryOffer_13 hl (by decide) rfl (fun ls hl => ?_)
  refine lv_ldc (v := (-9999002)) hx hb M.2.2.2.1 (M.2.2.2.2 _ mw_387) dL_tryOffer_15 ?_
  exact hret _ _ _ (-9999002) _ _ 1 6 (by decide) (by decide) dL_tryOffer_17 hw rfl ⟨rfl, rfl⟩
set_option maxHeartbeats 1000000 in
theorem lt_tryOffer_eISE (l : Launch) (G : va_G) (Y : Nat → Nat) (xo : Nat) (c1 : Int32) (c2 : Int32) (c3 : Int32) {fs : List Value} {segs segsC : List va_W} (is : List Nat) {fr lo : Nat} (hC : CtT l yX5_offer cX5_offer 5 (some .int) fr lo [.ref xo, .int c1, .int c2, .int c3] segsC eISE G Y) (hs0 : segs[0]? = some [(xo, .inr (4, fs))]) (hs : is.map (fun i => segs[i]?) = segsC.map some) (hnd : va_nd is = true) : CtL l yL_tryOffer cL_tryOffer 5 [(0, 7, 8, 13), (0, 7, 13, 16), (0, 7, 18, 19)] (fr + 1) (8 + (5 + 11) + lo) [.ref xo, .int c1, .int c2, .int c3] segs (fun k sg => k = (-9999003) ∧ sg = segs) G Y := by
  refine x_ofL (by decide) (Nat.le_of_ble_eq_true rfl) (fun p e s m args below meth c A ls Q M hK hZ hN hw hl htab hret => ?_)
  obtain ⟨hx, hb, -⟩ := id M
  have hl : lv_has ls 5 [(0, .ref xo), (1, .int c1), (2, .int c2), (3, .int c3)] := hl
  refine lv_aload_n hx hb dL_tryOffer_0 rfl (lv_at hl 0 rfl) ?_
  refine lv_iload_n hx hb dL_tryOffer_1 rfl (lv_at hl 1 rfl) ?_
  refine lv_iload_n hx hb dL_tryOffer_2 rfl (lv_at hl 2 rfl) ?_
  refine lv_iload_n hx hb dL_tryOffer_3 rfl (lv_at hl 3 rfl) ?_
  refine x_catchV (As := [.int c1, .int c2, .int c3]) (ri := 0) (rj := 0) (pre := [{ startPc := 0, endPc := 7, handlerPc := 8, catchType := 13 }, { startPc := 0, endPc := 7, handlerPc := 13, catchType := 16 }]) (xh := { startPc := 0, endPc := 7, handlerPc := 18, catchType := 19 }) (suf := []) hC cw_L_58 is M hK hZ hw hl.1 hs hnd hs0 rfl rfl ⟨Nat.le_refl _, Nat.le_refl _⟩ ⟨Nat.le_refl _, Nat.le_refl _⟩ rfl rfl (Nat.le_of_ble_eq_true rfl) dL_tryOffer_4 (htab.trans rfl) (fun z hz => by rcases List.mem_cons.mp hz with rfl | hz; exact Or.inr ⟨by decide, _, mw_683, hN.2.1⟩; obtain rfl := List.mem_singleton.mp hz; exact Or.inr ⟨by decide, _, mw_181, hN.2.2⟩) (by decide) (by decide) mw_453 (cast_self (M.2.2.2.2 _ mw_464)) (fun q H locs hw => ?_)
  refine lv_astore (lv' := [(4, .ref q), (0, .ref xo), (1, .int c1), (2, .int c2), (3, .int c3)]) hx hb dL_tryOffer_18 hl (by decide) rfl (fun ls hl => ?_)
  refine lv_ldc (v := (-9999003)) hx hb M.2.2.2.1 (M.2.2.2.2 _ mw_483) dL_tryOffer_20 ?_
  exact hret _ _ _ (-9999003) _ _ 1 6 (by decide) (by decide) dL_tryOffer_22 hw rfl ⟨rfl, rfl⟩
set_option maxHeartbeats 1000000 in
theorem lk_tryPrice (l : Launch) (G : va_G) (Y : Nat → Nat) (xo : Nat) (c1 : Int32) (c2 : Int32) {fs : List Value} {segs segsC : List va_W} (is : List Nat) {post : Int32 → List va_W → Prop} {fr lo : Nat} (hC : CtI l yX5_price cX5_price 4 .int fr lo [.ref xo, .int c1, .int c2] segsC post G Y) (hs0 : segs[0]? = some [(xo, .inr (4, fs))]) (hs : is.map (fun i => segs[i]?) = segsC.map some) (hnd : va_nd is = true) {post2 : Int32 → List va_W → Prop} (hpp : ∀ r sg1, post r sg1 → post2 r (xPut segs is sg1)) : CtL l yL_tryPrice cL_tryPrice 4 [(0, 6, 7, 13), (0, 6, 11, 16), (0, 6, 15, 19)] (fr + 1) (8 + (4 + 11) + lo) [.ref xo, .int c1, .int c2] segs post2 G Y := by
  refine x_ofL (by decide) (Nat.le_of_ble_eq_true rfl) (fun p e s m args below meth c A ls Q M hK hZ hN hw hl htab hret => ?_)
  obtain ⟨hx, hb, -⟩ := id M
  have hl : lv_has ls 4 [(0, .ref xo), (1, .int c1), (2, .int c2)] := hl
  refine lv_aload_n hx hb dL_tryPrice_0 rfl (lv_at hl 0 rfl) ?_
  refine lv_iload_n hx hb dL_tryPrice_1 rfl (lv_at hl 1 rfl) ?_
  refine lv_iload_n hx hb dL_tryPrice_2 rfl (lv_at hl 2 rfl) ?_
  refine x_cVI2 (As := [.int c1, .int c2]) hC cw_L_61 is 0 0 M hK hZ hw hl.1 hs hnd hs0 rfl rfl ⟨Nat.le_refl _, Nat.le_refl _⟩ ⟨Nat.zero_le _, Nat.zero_le _⟩ rfl rfl (Nat.le_of_ble_eq_true rfl) dL_tryPrice_3 (fun r sg hp ha H locs hw => ?_)
  exact hret _ _ _ r _ _ 0 0 (by decide) (by decide) dL_tryPrice_6 hw (xPut_ads hs hnd ha) (hpp r sg hp)
set_option maxHeartbeats 1000000 in
theorem lt_tryPrice_eIOB (l : Launch) (G : va_G) (Y : Nat → Nat) (xo : Nat) (c1 : Int32) (c2 : Int32) {fs : List Value} {segs segsC : List va_W} (is : List Nat) {fr lo : Nat} (hC : CtT l yX5_price cX5_price 4 (some .int) fr lo [.ref xo, .int c1, .int c2] segsC eIOB G Y) (hs0 : segs[0]? = some [(xo, .inr (4, fs))]) (hs : is.map (fun i => segs[i]?) = segsC.map some) (hnd : va_nd is = true) : CtL l yL_tryPrice cL_tryPrice 4 [(0, 6, 7, 13), (0, 6, 11, 16), (0, 6, 15, 19)] (fr + 1) (8 + (4 + 11) + lo) [.ref xo, .int c1, .int c2] segs (fun k sg => k = (-9999001) ∧ sg = segs) G Y := by
  refine x_ofL (by decide) (Nat.le_of_ble_eq_true rfl) (fun p e s m args below meth c A ls Q M hK hZ hN hw hl htab hret => ?_)
  obtain ⟨hx, hb, -⟩ := id M
  have hl : lv_has ls 4 [(0, .ref xo), (1, .int c1), (2, .int c2)] := hl
  refine lv_aload_n hx hb dL_tryPrice_0 rfl (lv_at hl 0 rfl) ?_
  refine lv_iload_n hx hb dL_tryPrice_1 rfl (lv_at hl 1 rfl) ?_
  refine lv_iload_n hx hb dL_tryPrice_2 rfl (lv_at hl 2 rfl) ?_
  refine x_catchV (As := [.int c1, .int c2]) (ri := 0) (rj := 0) (pre := []) (xh := { startPc := 0, endPc := 6, handlerPc := 7, catchType := 13 }) (suf := [{ startPc := 0, endPc := 6, handlerPc := 11, catchType := 16 }, { startPc := 0, endPc := 6, handlerPc := 15, catchType := 19 }]) hC cw_L_61 is M hK hZ hw hl.1 hs hnd hs0 rfl rfl ⟨Nat.le_refl _, Nat.le_refl _⟩ ⟨Nat.le_refl _, Nat.le_refl _⟩ rfl rfl (Nat.le_of_ble_eq_true rfl) dL_tryPrice_3 (htab.trans rfl) (fun z hz => nomatch hz) (by decide) (by decide) mw_683 (cast_self (M.2.2.2.2 _ mw_694)) (fun q H locs hw => ?_)
  refine lv_astore_n (lv' := [(3, .ref q), (0, .ref xo), (1, .int c1), (2, .int c2)]) hx hb dL_tryPrice_7 rfl hl (by decide) rfl (fun ls hl => ?_)
  refine lv_ldc (v := (-9999001)) hx hb M.2.2.2.1 (M.2.2.2.2 _ mw_711) dL_tryPrice_8 ?_
  exact hret _ _ _ (-9999001) _ _ 1 6 (by decide) (by decide) dL_tryPrice_10 hw rfl ⟨rfl, rfl⟩
set_option maxHeartbeats 1000000 in
theorem lt_tryPrice_eIAE (l : Launch) (G : va_G) (Y : Nat → Nat) (xo : Nat) (c1 : Int32) (c2 : Int32) {fs : List Value} {segs segsC : List va_W} (is : List Nat) {fr lo : Nat} (hC : CtT l yX5_price cX5_price 4 (some .int) fr lo [.ref xo, .int c1, .int c2] segsC eIAE G Y) (hs0 : segs[0]? = some [(xo, .inr (4, fs))]) (hs : is.map (fun i => segs[i]?) = segsC.map some) (hnd : va_nd is = true) : CtL l yL_tryPrice cL_tryPrice 4 [(0, 6, 7, 13), (0, 6, 11, 16), (0, 6, 15, 19)] (fr + 1) (8 + (4 + 11) + lo) [.ref xo, .int c1, .int c2] segs (fun k sg => k = (-9999002) ∧ sg = segs) G Y := by
  refine x_ofL (by decide) (Nat.le_of_ble_eq_true rfl) (fun p e s m args below meth c A ls Q M hK hZ hN hw hl htab hret => ?_)
  obtain ⟨hx, hb, -⟩ := id M
  have hl : lv_has ls 4 [(0, .ref xo), (1, .int c1), (2, .int c2)] := hl
  refine lv_aload_n hx hb dL_tryPrice_0 rfl (lv_at hl 0 rfl) ?_
  refine lv_iload_n hx hb dL_tryPrice_1 rfl (lv_at hl 1 rfl) ?_
  refine lv_iload_n hx hb dL_tryPrice_2 rfl (lv_at hl 2 rfl) ?_
  refine x_catchV (As := [.int c1, .int c2]) (ri := 0) (rj := 0) (pre := [{ startPc := 0, endPc := 6, handlerPc := 7, catchType := 13 }]) (xh := { startPc := 0, endPc := 6, handlerPc := 11, catchType := 16 }) (suf := [{ startPc := 0, endPc := 6, handlerPc := 15, catchType := 19 }]) hC cw_L_61 is M hK hZ hw hl.1 hs hnd hs0 rfl rfl ⟨Nat.le_refl _, Nat.le_refl _⟩ ⟨Nat.le_refl _, Nat.le_refl _⟩ rfl rfl (Nat.le_of_ble_eq_true rfl) dL_tryPrice_3 (htab.trans rfl) (fun z hz => by obtain rfl := List.mem_singleton.mp hz; exact Or.inr ⟨by decide, _, mw_683, hN.1⟩) (by decide) (by decide) mw_181 (cast_self (M.2.2.2.2 _ mw_190)) (fun q H locs hw => ?_)
  refine lv_astore_n (lv' := [(3, .ref q), (0, .ref xo), (1, .int c1), (2, .int c2)]) hx hb dL_tryPrice_11 rfl hl (by decide) rfl (fun ls hl => ?_)
  refine lv_ldc (v := (-9999002)) hx hb M.2.2.2.1 (M.2.2.2.2 _ mw_387) dL_tryPrice_12 ?_
  exact hret _ _ _ (-9999002) _ _ 1 6 (by decide) (by decide) dL_tryPrice_14 hw rfl ⟨rfl, rfl⟩
set_option maxHeartbeats 1000000 in
theorem lt_tryPrice_eISE (l : Launch) (G : va_G) (Y : Nat → Nat) (xo : Nat) (c1 : Int32) (c2 : Int32) {fs : List Value} {segs segsC : List va_W} (is : List Nat) {fr lo : Nat} (hC : CtT l yX5_price cX5_price 4 (some .int) fr lo [.ref xo, .int c1, .int c2] segsC eISE G Y) (hs0 : segs[0]? = some [(xo, .inr (4, fs))]) (hs : is.map (fun i => segs[i]?) = segsC.map some) (hnd : va_nd is = true) : CtL l yL_tryPrice cL_tryPrice 4 [(0, 6, 7, 13), (0, 6, 11, 16), (0, 6, 15, 19)] (fr + 1) (8 + (4 + 11) + lo) [.ref xo, .int c1, .int c2] segs (fun k sg => k = (-9999003) ∧ sg = segs) G Y := by
  refine x_ofL (by decide) (Nat.le_of_ble_eq_true rfl) (fun p e s m args below meth c A ls Q M hK hZ hN hw hl htab hret => ?_)
  obtain ⟨hx, hb, -⟩ := id M
  have hl : lv_has ls 4 [(0, .ref xo), (1, .int c1), (2, .int c2)] := hl
  refine lv_aload_n hx hb dL_tryPrice_0 rfl (lv_at hl 0 rfl) ?_
  refine lv_iload_n hx hb dL_tryPrice_1 rfl (lv_at hl 1 rfl) ?_
  refine lv_iload_n hx hb dL_tryPrice_2 rfl (lv_at hl 2 rfl) ?_
  refine x_catchV (As := [.int c1, .int c2]) (ri := 0) (rj := 0) (pre := [{ startPc := 0, endPc := 6, handlerPc := 7, catchType := 13 }, { startPc := 0, endPc := 6, handlerPc := 11, catchType := 16 }]) (xh := { startPc := 0, endPc := 6, handlerPc := 15, catchType := 19 }) (suf := []) hC cw_L_61 is M hK hZ hw hl.1 hs hnd hs0 rfl rfl ⟨Nat.le_refl _, Nat.le_refl _⟩ ⟨Nat.le_refl _, Nat.le_refl _⟩ rfl rfl (Nat.le_of_ble_eq_true rfl) dL_tryPrice_3 (htab.trans rfl) (fun z hz => by rcases List.mem_cons.mp hz with rfl | hz; exact Or.inr ⟨by decide, _, mw_683, hN.2.1⟩; obtain rfl := List.mem_singleton.mp hz; exact Or.inr ⟨by decide, _, mw_181, hN.2.2⟩) (by decide) (by decide) mw_453 (cast_self (M.2.2.2.2 _ mw_464)) (fun q H locs hw => ?_)
  refine lv_astore_n (lv' := [(3, .ref q), (0, .ref xo), (1, .int c1), (2, .int c2)]) hx hb dL_tryPrice_15 rfl hl (by decide) rfl (fun ls hl => ?_)
  refine lv_ldc (v := (-9999003)) hx hb M.2.2.2.1 (M.2.2.2.2 _ mw_483) dL_tryPrice_16 ?_
  exact hret _ _ _ (-9999003) _ _ 1 6 (by decide) (by decide) dL_tryPrice_18 hw rfl ⟨rfl, rfl⟩
set_option maxHeartbeats 1000000 in
theorem lk_tryJoin (l : Launch) (G : va_G) (Y : Nat → Nat) (xo : Nat) (c1 : Int32) (c2 : Int32) {fs : List Value} {segs segsC : List va_W} (is : List Nat) {post : Int32 → List va_W → Prop} {fr lo : Nat} (hC : CtI l yX5_join cX5_join 3 .int fr lo [.ref xo, .int c1, .int c2] segsC post G Y) (hs0 : segs[0]? = some [(xo, .inr (4, fs))]) (hs : is.map (fun i => segs[i]?) = segsC.map some) (hnd : va_nd is = true) {post2 : Int32 → List va_W → Prop} (hpp : ∀ r sg1, post r sg1 → post2 r (xPut segs is sg1)) : CtL l yL_tryJoin cL_tryJoin 4 [(0, 6, 7, 16), (0, 6, 11, 19)] (fr + 1) (8 + (3 + 11) + lo) [.ref xo, .int c1, .int c2] segs post2 G Y := by
  refine x_ofL (by decide) (Nat.le_of_ble_eq_true rfl) (fun p e s m args below meth c A ls Q M hK hZ hN hw hl htab hret => ?_)
  obtain ⟨hx, hb, -⟩ := id M
  have hl : lv_has ls 4 [(0, .ref xo), (1, .int c1), (2, .int c2)] := hl
  refine lv_aload_n hx hb dL_tryJoin_0 rfl (lv_at hl 0 rfl) ?_
  refine lv_iload_n hx hb dL_tryJoin_1 rfl (lv_at hl 1 rfl) ?_
  refine lv_iload_n hx hb dL_tryJoin_2 rfl (lv_at hl 2 rfl) ?_
  refine x_cVI2 (As := [.int c1, .int c2]) hC cw_L_64 is 0 0 M hK hZ hw hl.1 hs hnd hs0 rfl rfl ⟨Nat.le_refl _, Nat.le_refl _⟩ ⟨Nat.zero_le _, Nat.zero_le _⟩ rfl rfl (Nat.le_of_ble_eq_true rfl) dL_tryJoin_3 (fun r sg hp ha H locs hw => ?_)
  exact hret _ _ _ r _ _ 0 0 (by decide) (by decide) dL_tryJoin_6 hw (xPut_ads hs hnd ha) (hpp r sg hp)
set_option maxHeartbeats 1000000 in
theorem lt_tryJoin_eIAE (l : Launch) (G : va_G) (Y : Nat → Nat) (xo : Nat) (c1 : Int32) (c2 : Int32) {fs : List Value} {segs segsC : List va_W} (is : List Nat) {fr lo : Nat} (hC : CtT l yX5_join cX5_join 3 (some .int) fr lo [.ref xo, .int c1, .int c2] segsC eIAE G Y) (hs0 : segs[0]? = some [(xo, .inr (4, fs))]) (hs : is.map (fun i => segs[i]?) = segsC.map some) (hnd : va_nd is = true) : CtL l yL_tryJoin cL_tryJoin 4 [(0, 6, 7, 16), (0, 6, 11, 19)] (fr + 1) (8 + (3 + 11) + lo) [.ref xo, .int c1, .int c2] segs (fun k sg => k = (-9999002) ∧ sg = segs) G Y := by
  refine x_ofL (by decide) (Nat.le_of_ble_eq_true rfl) (fun p e s m args below meth c A ls Q M hK hZ hN hw hl htab hret => ?_)
  obtain ⟨hx, hb, -⟩ := id M
  have hl : lv_has ls 4 [(0, .ref xo), (1, .int c1), (2, .int c2)] := hl
  refine lv_aload_n hx hb dL_tryJoin_0 rfl (lv_at hl 0 rfl) ?_
  refine lv_iload_n hx hb dL_tryJoin_1 rfl (lv_at hl 1 rfl) ?_
  refine lv_iload_n hx hb dL_tryJoin_2 rfl (lv_at hl 2 rfl) ?_
  refine x_catchV (As := [.int c1, .int c2]) (ri := 0) (rj := 0) (pre := []) (xh := { startPc := 0, endPc := 6, handlerPc := 7, catchType := 16 }) (suf := [{ startPc := 0, endPc := 6, handlerPc := 11, catchType := 19 }]) hC cw_L_64 is M hK hZ hw hl.1 hs hnd hs0 rfl rfl ⟨Nat.le_refl _, Nat.le_refl _⟩ ⟨Nat.le_refl _, Nat.le_refl _⟩ rfl rfl (Nat.le_of_ble_eq_true rfl) dL_tryJoin_3 (htab.trans rfl) (fun z hz => nomatch hz) (by decide) (by decide) mw_181 (cast_self (M.2.2.2.2 _ mw_190)) (fun q H locs hw => ?_)
  refine lv_astore_n (lv' := [(3, .ref q), (0, .ref xo), (1, .int c1), (2, .int c2)]) hx hb dL_tryJoin_7 rfl hl (by decide) rfl (fun ls hl => ?_)
  refine lv_ldc (v := (-9999002)) hx hb M.2.2.2.1 (M.2.2.2.2 _ mw_387) dL_tryJoin_8 ?_
  exact hret _ _ _ (-9999002) _ _ 1 6 (by decide) (by decide) dL_tryJoin_10 hw rfl ⟨rfl, rfl⟩
set_option maxHeartbeats 1000000 in
theorem lt_tryJoin_eISE (l : Launch) (G : va_G) (Y : Nat → Nat) (xo : Nat) (c1 : Int32) (c2 : Int32) {fs : List Value} {segs segsC : List va_W} (is : List Nat) {fr lo : Nat} (hC : CtT l yX5_join cX5_join 3 (some .int) fr lo [.ref xo, .int c1, .int c2] segsC eISE G Y) (hs0 : segs[0]? = some [(xo, .inr (4, fs))]) (hs : is.map (fun i => segs[i]?) = segsC.map some) (hnd : va_nd is = true) : CtL l yL_tryJoin cL_tryJoin 4 [(0, 6, 7, 16), (0, 6, 11, 19)] (fr + 1) (8 + (3 + 11) + lo) [.ref xo, .int c1, .int c2] segs (fun k sg => k = (-9999003) ∧ sg = segs) G Y := by
  refine x_ofL (by decide) (Nat.le_of_ble_eq_true rfl) (fun p e s m args below meth c A ls Q M hK hZ hN hw hl htab hret => ?_)
  obtain ⟨hx, hb, -⟩ := id M
  have hl : lv_has ls 4 [(0, .ref xo), (1, .int c1), (2, .int c2)] := hl
  refine lv_aload_n hx hb dL_tryJoin_0 rfl (lv_at hl 0 rfl) ?_
  refine lv_iload_n hx hb dL_tryJoin_1 rfl (lv_at hl 1 rfl) ?_
  refine lv_iload_n hx hb dL_tryJoin_2 rfl (lv_at hl 2 rfl) ?_
  refine x_catchV (As := [.int c1, .int c2]) (ri := 0) (rj := 0) (pre := [{ startPc := 0, endPc := 6, handlerPc := 7, catchType := 16 }]) (xh := { startPc := 0, endPc := 6, handlerPc := 11, catchType := 19 }) (suf := []) hC cw_L_64 is M hK hZ hw hl.1 hs hnd hs0 rfl rfl ⟨Nat.le_refl _, Nat.le_refl _⟩ ⟨Nat.le_refl _, Nat.le_refl _⟩ rfl rfl (Nat.le_of_ble_eq_true rfl) dL_tryJoin_3 (htab.trans rfl) (fun z hz => by obtain rfl := List.mem_singleton.mp hz; exact Or.inr ⟨by decide, _, mw_181, hN.2.2⟩) (by decide) (by decide) mw_453 (cast_self (M.2.2.2.2 _ mw_464)) (fun q H locs hw => ?_)
  refine lv_astore_n (lv' := [(3, .ref q), (0, .ref xo), (1, .int c1), (2, .int c2)]) hx hb dL_tryJoin_11 rfl hl (by decide) rfl (fun ls hl => ?_)
  refine lv_ldc (v := (-9999003)) hx hb M.2.2.2.1 (M.2.2.2.2 _ mw_483) dL_tryJoin_12 ?_
  exact hret _ _ _ (-9999003) _ _ 1 6 (by decide) (by decide) dL_tryJoin_14 hw rfl ⟨rfl, rfl⟩
set_option maxHeartbeats 1000000 in
theorem lk_tryValue (l : Launch) (G : va_G) (Y : Nat → Nat) (xo : Nat) (c1 : Int32) (c2 : Int32) (c3 : Int32) {fs : List Value} {segs segsC : List va_W} (is : List Nat) {post : Int32 → List va_W → Prop} {fr lo : Nat} (hC : CtI l yX5_value cX5_value 5 .int fr lo [.ref xo, .int c1, .int c2, .int c3] segsC post G Y) (hs0 : segs[0]? = some [(xo, .inr (4, fs))]) (hs : is.map (fun i => segs[i]?) = segsC.map some) (hnd : va_nd is = true) {post2 : Int32 → List va_W → Prop} (hpp : ∀ r sg1, post r sg1 → post2 r (xPut segs is sg1)) : CtL l yL_tryValue cL_tryValue 5 [(0, 7, 8, 13), (0, 7, 13, 16)] (fr + 1) (8 + (5 + 11) + lo) [.ref xo, .int c1, .int c2, .int c3] segs post2 G Y := by
  refine x_ofL (by decide) (Nat.le_of_ble_eq_true rfl) (fun p e s m args below meth c A ls Q M hK hZ hN hw hl htab hret => ?_)
  obtain ⟨hx, hb, -⟩ := id M
  have hl : lv_has ls 5 [(0, .ref xo), (1, .int c1), (2, .int c2), (3, .int c3)] := hl
  refine lv_aload_n hx hb dL_tryValue_0 rfl (lv_at hl 0 rfl) ?_
  refine lv_iload_n hx hb dL_tryValue_1 rfl (lv_at hl 1 rfl) ?_
  refine lv_iload_n hx hb dL_tryValue_2 rfl (lv_at hl 2 rfl) ?_
  refine lv_iload_n hx hb dL_tryValue_3 rfl (lv_at hl 3 rfl) ?_
  refine x_cVI2 (As := [.int c1, .int c2, .int c3]) hC cw_L_67 is 0 0 M hK hZ hw hl.1 hs hnd hs0 rfl rfl ⟨Nat.le_refl _, Nat.le_refl _⟩ ⟨Nat.zero_le _, Nat.zero_le _⟩ rfl rfl (Nat.le_of_ble_eq_true rfl) dL_tryValue_4 (fun r sg hp ha H locs hw => ?_)
  exact hret _ _ _ r _ _ 0 0 (by decide) (by decide) dL_tryValue_7 hw (xPut_ads hs hnd ha) (hpp r sg hp)
set_option maxHeartbeats 1000000 in
theorem lt_tryValue_eIOB (l : Launch) (G : va_G) (Y : Nat → Nat) (xo : Nat) (c1 : Int32) (c2 : Int32) (c3 : Int32) {fs : List Value} {segs segsC : List va_W} (is : List Nat) {fr lo : Nat} (hC : CtT l yX5_value cX5_value 5 (some .int) fr lo [.ref xo, .int c1, .int c2, .int c3] segsC eIOB G Y) (hs0 : segs[0]? = some [(xo, .inr (4, fs))]) (hs : is.map (fun i => segs[i]?) = segsC.map some) (hnd : va_nd is = true) : CtL l yL_tryValue cL_tryValue 5 [(0, 7, 8, 13), (0, 7, 13, 16)] (fr + 1) (8 + (5 + 11) + lo) [.ref xo, .int c1, .int c2, .int c3] segs (fun k sg => k = (-9999001) ∧ sg = segs) G Y := by
  refine x_ofL (by decide) (Nat.le_of_ble_eq_true rfl) (fun p e s m args below meth c A ls Q M hK hZ hN hw hl htab hret => ?_)
  obtain ⟨hx, hb, -⟩ := id M
  have hl : lv_has ls 5 [(0, .ref xo), (1, .int c1), (2, .int c2), (3, .int c3)] := hl
  refine lv_aload_n hx hb dL_tryValue_0 rfl (lv_at hl 0 rfl) ?_
  refine lv_iload_n hx hb dL_tryValue_1 rfl (lv_at hl 1 rfl) ?_
  refine lv_iload_n hx hb dL_tryValue_2 rfl (lv_at hl 2 rfl) ?_
  refine lv_iload_n hx hb dL_tryValue_3 rfl (lv_at hl 3 rfl) ?_
  refine x_catchV (As := [.int c1, .int c2, .int c3]) (ri := 0) (rj := 0) (pre := []) (xh := { startPc := 0, endPc := 7, handlerPc := 8, catchType := 13 }) (suf := [{ startPc := 0, endPc := 7, handlerPc := 13, catchType := 16 }]) hC cw_L_67 is M hK hZ hw hl.1 hs hnd hs0 rfl rfl ⟨Nat.le_refl _, Nat.le_refl _⟩ ⟨Nat.le_refl _, Nat.le_refl _⟩ rfl rfl (Nat.le_of_ble_eq_true rfl) dL_tryValue_4 (htab.trans rfl) (fun z hz => nomatch hz) (by decide) (by decide) mw_683 (cast_self (M.2.2.2.2 _ mw_694)) (fun q H locs hw => ?_)
  refine lv_astore (lv' := [(4, .ref q), (0, .ref xo), (1, .int c1), (2, .int c2), (3, .int c3)]) hx hb dL_tryValue_8 hl (by decide) rfl (fun ls hl => ?_)
  refine lv_ldc (v := (-9999001)) hx hb M.2.2.2.1 (M.2.2.2.2 _ mw_711) dL_tryValue_10 ?_
  exact hret _ _ _ (-9999001) _ _ 1 6 (by decide) (by decide) dL_tryValue_12 hw rfl ⟨rfl, rfl⟩
set_option maxHeartbeats 1000000 in
theorem lt_tryValue_eIAE (l : Launch) (G : va_G) (Y : Nat → Nat) (xo : Nat) (c1 : Int32) (c2 : Int32) (c3 : Int32) {fs : List Value} {segs segsC : List va_W} (is : List Nat) {fr lo : Nat} (hC : CtT l yX5_value cX5_value 5 (some .int) fr lo [.ref xo, .int c1, .int c2, .int c3] segsC eIAE G Y) (hs0 : segs[0]? = some [(xo, .inr (4, fs))]) (hs : is.map (fun i => segs[i]?) = segsC.map some) (hnd : va_nd is = true) : CtL l yL_tryValue cL_tryValue 5 [(0, 7, 8, 13), (0, 7, 13, 16)] (fr + 1) (8 + (5 + 11) + lo) [.ref xo, .int c1, .int c2, .int c3] segs (fun k sg => k = (-9999002) ∧ sg = segs) G Y := by
  refine x_ofL (by decide) (Nat.le_of_ble_eq_true rfl) (fun p e s m args below meth c A ls Q M hK hZ hN hw hl htab hret => ?_)
  obtain ⟨hx, hb, -⟩ := id M
  have hl : lv_has ls 5 [(0, .ref xo), (1, .int c1), (2, .int c2), (3, .int c3)] := hl
  refine lv_aload_n hx hb dL_tryValue_0 rfl (lv_at hl 0 rfl) ?_
  refine lv_iload_n hx hb dL_tryValue_1 rfl (lv_at hl 1 rfl) ?_
  refine lv_iload_n hx hb dL_tryValue_2 rfl (lv_at hl 2 rfl) ?_
  refine lv_iload_n hx hb dL_tryValue_3 rfl (lv_at hl 3 rfl) ?_
  refine x_catchV (As := [.int c1, .int c2, .int c3]) (ri := 0) (rj := 0) (pre := [{ startPc := 0, endPc := 7, handlerPc := 8, catchType := 13 }]) (xh := { startPc := 0, endPc := 7, handlerPc := 13, catchType := 16 }) (suf := []) hC cw_L_67 is M hK hZ hw hl.1 hs hnd hs0 rfl rfl ⟨Nat.le_refl _, Nat.le_refl _⟩ ⟨Nat.le_refl _, Nat.le_refl _⟩ rfl rfl (Nat.le_of_ble_eq_true rfl) dL_tryValue_4 (htab.trans rfl) (fun z hz => by obtain rfl := List.mem_singleton.mp hz; exact Or.inr ⟨by decide, _, mw_683, hN.1⟩) (by decide) (by decide) mw_181 (cast_self (M.2.2.2.2 _ mw_190)) (fun q H locs hw => ?_)
  refine lv_astore (lv' := [(4, .ref q), (0, .ref xo), (1, .int c1), (2, .int c2), (3, .int c3)]) hx hb dL_tryValue_13 hl (by decide) rfl (fun ls hl => ?_)
  refine lv_ldc (v := (-9999002)) hx hb M.2.2.2.1 (M.2.2.2.2 _ mw_387) dL_tryValue_15 ?_
  exact hret _ _ _ (-9999002) _ _ 1 6 (by decide) (by decide) dL_tryValue_17 hw rfl ⟨rfl, rfl⟩
set_option maxHeartbeats 1000000 in
theorem lk_tryAsk (l : Launch) (G : va_G) (Y : Nat → Nat) (xo : Nat) (c1 : Int32) (c2 : Int32) (c3 : Int32) {fs : List Value} {segs segsC : List va_W} (is : List Nat) {post : Int32 → List va_W → Prop} {fr lo : Nat} (hC : CtI l yX5_ask cX5_ask 4 .int fr lo [.ref xo, .int c1, .int c2, .int c3] segsC post G Y) (hs0 : segs[0]? = some [(xo, .inr (4, fs))]) (hs : is.map (fun i => segs[i]?) = segsC.map some) (hnd : va_nd is = true) {post2 : Int32 → List va_W → Prop} (hpp : ∀ r sg1, post r sg1 → post2 r (xPut segs is sg1)) : CtL l yL_tryAsk cL_tryAsk 5 [(0, 7, 8, 13), (0, 7, 13, 16), (0, 7, 18, 19)] (fr + 1) (8 + (4 + 11) + lo) [.ref xo, .int c1, .int c2, .int c3] segs post2 G Y := by
  refine x_ofL (by decide) (Nat.le_of_ble_eq_true rfl) (fun p e s m args below meth c A ls Q M hK hZ hN hw hl htab hret => ?_)
  obtain ⟨hx, hb, -⟩ := id M
  have hl : lv_has ls 5 [(0, .ref xo), (1, .int c1), (2, .int c2), (3, .int c3)] := hl
  refine lv_aload_n hx hb dL_tryAsk_0 rfl (lv_at hl 0 rfl) ?_
  refine lv_iload_n hx hb dL_tryAsk_1 rfl (lv_at hl 1 rfl) ?_
  refine lv_iload_n hx hb dL_tryAsk_2 rfl (lv_at hl 2 rfl) ?_
  refine lv_iload_n hx hb dL_tryAsk_3 rfl (lv_at hl 3 rfl) ?_
  refine x_cVI2 (As := [.int c1, .int c2, .int c3]) hC cw_L_70 is 0 0 M hK hZ hw hl.1 hs hnd hs0 rfl rfl ⟨Nat.le_refl _, Nat.le_refl _⟩ ⟨Nat.zero_le _, Nat.zero_le _⟩ rfl rfl (Nat.le_of_ble_eq_true rfl) dL_tryAsk_4 (fun r sg hp ha H locs hw => ?_)
  exact hret _ _ _ r _ _ 0 0 (by decide) (by decide) dL_tryAsk_7 hw (xPut_ads hs hnd ha) (hpp r sg hp)
set_option maxHeartbeats 1000000 in
theorem lt_tryAsk_eIOB (l : Launch) (G : va_G) (Y : Nat → Nat) (xo : Nat) (c1 : Int32) (c2 : Int32) (c3 : Int32) {fs : List Value} {segs segsC : List va_W} (is : List Nat) {fr lo : Nat} (hC : CtT l yX5_ask cX5_ask 4 (some .int) fr lo [.ref xo, .int c1, .int c2, .int c3] segsC eIOB G Y) (hs0 : segs[0]? = some [(xo, .inr (4, fs))]) (hs : is.map (fun i => segs[i]?) = segsC.map some) (hnd : va_nd is = true) : CtL l yL_tryAsk cL_tryAsk 5 [(0, 7, 8, 13), (0, 7, 13, 16), (0, 7, 18, 19)] (fr + 1) (8 + (4 + 11) + lo) [.ref xo, .int c1, .int c2, .int c3] segs (fun k sg => k = (-9999001) ∧ sg = segs) G Y := by
  refine x_ofL (by decide) (Nat.le_of_ble_eq_true rfl) (fun p e s m args below meth c A ls Q M hK hZ hN hw hl htab hret => ?_)
  obtain ⟨hx, hb, -⟩ := id M
  have hl : lv_has ls 5 [(0, .ref xo), (1, .int c1), (2, .int c2), (3, .int c3)] := hl
  refine lv_aload_n hx hb dL_tryAsk_0 rfl (lv_at hl 0 rfl) ?_
  refine lv_iload_n hx hb dL_tryAsk_1 rfl (lv_at hl 1 rfl) ?_
  refine lv_iload_n hx hb dL_tryAsk_2 rfl (lv_at hl 2 rfl) ?_
  refine lv_iload_n hx hb dL_tryAsk_3 rfl (lv_at hl 3 rfl) ?_
  refine x_catchV (As := [.int c1, .int c2, .int c3]) (ri := 0) (rj := 0) (pre := []) (xh := { startPc := 0, endPc := 7, handlerPc := 8, catchType := 13 }) (suf := [{ startPc := 0, endPc := 7, handlerPc := 13, catchType := 16 }, { startPc := 0, endPc := 7, handlerPc := 18, catchType := 19 }]) hC cw_L_70 is M hK hZ hw hl.1 hs hnd hs0 rfl rfl ⟨Nat.le_refl _, Nat.le_refl _⟩ ⟨Nat.le_refl _, Nat.le_refl _⟩ rfl rfl (Nat.le_of_ble_eq_true rfl) dL_tryAsk_4 (htab.trans rfl) (fun z hz => nomatch hz) (by decide) (by decide) mw_683 (cast_self (M.2.2.2.2 _ mw_694)) (fun q H locs hw => ?_)
  refine lv_astore (lv' := [(4, .ref q), (0, .ref xo), (1, .int c1), (2, .int c2), (3, .int c3)]) hx hb dL_tryAsk_8 hl (by decide) rfl (fun ls hl => ?_)
  refine lv_ldc (v := (-9999001)) hx hb M.2.2.2.1 (M.2.2.2.2 _ mw_711) dL_tryAsk_10 ?_
  exact hret _ _ _ (-9999001) _ _ 1 6 (by decide) (by decide) dL_tryAsk_12 hw rfl ⟨rfl, rfl⟩
set_option maxHeartbeats 1000000 in
theorem lt_tryAsk_eIAE (l : Launch) (G : va_G) (Y : Nat → Nat) (xo : Nat) (c1 : Int32) (c2 : Int32) (c3 : Int32) {fs : List Value} {segs segsC : List va_W} (is : List Nat) {fr lo : Nat} (hC : CtT l yX5_ask cX5_ask 4 (some .int) fr lo [.ref xo, .int c1, .int c2, .int c3] segsC eIAE G Y) (hs0 : segs[0]? = some [(xo, .inr (4, fs))]) (hs : is.map (fun i => segs[i]?) = segsC.map some) (hnd : va_nd is = true) : CtL l yL_tryAsk cL_tryAsk 5 [(0, 7, 8, 13), (0, 7, 13, 16), (0, 7, 18, 19)] (fr + 1) (8 + (4 + 11) + lo) [.ref xo, .int c1, .int c2, .int c3] segs (fun k sg => k = (-9999002) ∧ sg = segs) G Y := by
  refine x_ofL (by decide) (Nat.le_of_ble_eq_true rfl) (fun p e s m args below meth c A ls Q M hK hZ hN hw hl htab hret => ?_)
  obtain ⟨hx, hb, -⟩ := id M
  have hl : lv_has ls 5 [(0, .ref xo), (1, .int c1), (2, .int c2), (3, .int c3)] := hl
  refine lv_aload_n hx hb dL_tryAsk_0 rfl (lv_at hl 0 rfl) ?_
  refine lv_iload_n hx hb dL_tryAsk_1 rfl (lv_at hl 1 rfl) ?_
  refine lv_iload_n hx hb dL_tryAsk_2 rfl (lv_at hl 2 rfl) ?_
  refine lv_iload_n hx hb dL_tryAsk_3 rfl (lv_at hl 3 rfl) ?_
  refine x_catchV (As := [.int c1, .int c2, .int c3]) (ri := 0) (rj := 0) (pre := [{ startPc := 0, endPc := 7, handlerPc := 8, catchType := 13 }]) (xh := { startPc := 0, endPc := 7, handlerPc := 13, catchType := 16 }) (suf := [{ startPc := 0, endPc := 7, handlerPc := 18, catchType := 19 }]) hC cw_L_70 is M hK hZ hw hl.1 hs hnd hs0 rfl rfl ⟨Nat.le_refl _, Nat.le_refl _⟩ ⟨Nat.le_refl _, Nat.le_refl _⟩ rfl rfl (Nat.le_of_ble_eq_true rfl) dL_tryAsk_4 (htab.trans rfl) (fun z hz => by obtain rfl := List.mem_singleton.mp hz; exact Or.inr ⟨by decide, _, mw_683, hN.1⟩) (by decide) (by decide) mw_181 (cast_self (M.2.2.2.2 _ mw_190)) (fun q H locs hw => ?_)
  refine lv_astore (lv' := [(4, .ref q), (0, .ref xo), (1, .int c1), (2, .int c2), (3, .int c3)]) hx hb dL_tryAsk_13 hl (by decide) rfl (fun ls hl => ?_)
  refine lv_ldc (v := (-9999002)) hx hb M.2.2.2.1 (M.2.2.2.2 _ mw_387) dL_tryAsk_15 ?_
  exact hret _ _ _ (-9999002) _ _ 1 6 (by decide) (by decide) dL_tryAsk_17 hw rfl ⟨rfl, rfl⟩
set_option maxHeartbeats 1000000 in
theorem lt_tryAsk_eISE (l : Launch) (G : va_G) (Y : Nat → Nat) (xo : Nat) (c1 : Int32) (c2 : Int32) (c3 : Int32) {fs : List Value} {segs segsC : List va_W} (is : List Nat) {fr lo : Nat} (hC : CtT l yX5_ask cX5_ask 4 (some .int) fr lo [.ref xo, .int c1, .int c2, .int c3] segsC eISE G Y) (hs0 : segs[0]? = some [(xo, .inr (4, fs))]) (hs : is.map (fun i => segs[i]?) = segsC.map some) (hnd : va_nd is = true) : CtL l yL_tryAsk cL_tryAsk 5 [(0, 7, 8, 13), (0, 7, 13, 16), (0, 7, 18, 19)] (fr + 1) (8 + (4 + 11) + lo) [.ref xo, .int c1, .int c2, .int c3] segs (fun k sg => k = (-9999003) ∧ sg = segs) G Y := by
  refine x_ofL (by decide) (Nat.le_of_ble_eq_true rfl) (fun p e s m args below meth c A ls Q M hK hZ hN hw hl htab hret => ?_)
  obtain ⟨hx, hb, -⟩ := id M
  have hl : lv_has ls 5 [(0, .ref xo), (1, .int c1), (2, .int c2), (3, .int c3)] := hl
  refine lv_aload_n hx hb dL_tryAsk_0 rfl (lv_at hl 0 rfl) ?_
  refine lv_iload_n hx hb dL_tryAsk_1 rfl (lv_at hl 1 rfl) ?_
  refine lv_iload_n hx hb dL_tryAsk_2 rfl (lv_at hl 2 rfl) ?_
  refine lv_iload_n hx hb dL_tryAsk_3 rfl (lv_at hl 3 rfl) ?_
  refine x_catchV (As := [.int c1, .int c2, .int c3]) (ri := 0) (rj := 0) (pre := [{ startPc := 0, endPc := 7, handlerPc := 8, catchType := 13 }, { startPc := 0, endPc := 7, handlerPc := 13, catchType := 16 }]) (xh := { startPc := 0, endPc := 7, handlerPc := 18, catchType := 19 }) (suf := []) hC cw_L_70 is M hK hZ hw hl.1 hs hnd hs0 rfl rfl ⟨Nat.le_refl _, Nat.le_refl _⟩ ⟨Nat.le_refl _, Nat.le_refl _⟩ rfl rfl (Nat.le_of_ble_eq_true rfl) dL_tryAsk_4 (htab.trans rfl) (fun z hz => by rcases List.mem_cons.mp hz with rfl | hz; exact Or.inr ⟨by decide, _, mw_683, hN.2.1⟩; obtain rfl := List.mem_singleton.mp hz; exact Or.inr ⟨by decide, _, mw_181, hN.2.2⟩) (by decide) (by decide) mw_453 (cast_self (M.2.2.2.2 _ mw_464)) (fun q H locs hw => ?_)
  refine lv_astore (lv' := [(4, .ref q), (0, .ref xo), (1, .int c1), (2, .int c2), (3, .int c3)]) hx hb dL_tryAsk_18 hl (by decide) rfl (fun ls hl => ?_)
  refine lv_ldc (v := (-9999003)) hx hb M.2.2.2.1 (M.2.2.2.2 _ mw_483) dL_tryAsk_20 ?_
  exact hret _ _ _ (-9999003) _ _ 1 6 (by decide) (by decide) dL_tryAsk_22 hw rfl ⟨rfl, rfl⟩
set_option maxHeartbeats 1000000 in
theorem lk_tryBid (l : Launch) (G : va_G) (Y : Nat → Nat) (xo : Nat) (c1 : Int32) {fs : List Value} {segs segsC : List va_W} (is : List Nat) {post : Int32 → List va_W → Prop} {fr lo : Nat} (hC : CtI l yX5_bid cX5_bid 2 .int fr lo [.ref xo, .int c1] segsC post G Y) (hs0 : segs[0]? = some [(xo, .inr (4, fs))]) (hs : is.map (fun i => segs[i]?) = segsC.map some) (hnd : va_nd is = true) {post2 : Int32 → List va_W → Prop} (hpp : ∀ r sg1, post r sg1 → post2 r (xPut segs is sg1)) : CtL l yL_tryBid cL_tryBid 3 [(0, 5, 6, 13), (0, 5, 10, 19)] (fr + 1) (8 + (2 + 11) + lo) [.ref xo, .int c1] segs post2 G Y := by
  refine x_ofL (by decide) (Nat.le_of_ble_eq_true rfl) (fun p e s m args below meth c A ls Q M hK hZ hN hw hl htab hret => ?_)
  obtain ⟨hx, hb, -⟩ := id M
  have hl : lv_has ls 3 [(0, .ref xo), (1, .int c1)] := hl
  refine lv_aload_n hx hb dL_tryBid_0 rfl (lv_at hl 0 rfl) ?_
  refine lv_iload_n hx hb dL_tryBid_1 rfl (lv_at hl 1 rfl) ?_
  refine x_cVI2 (As := [.int c1]) hC cw_L_73 is 0 0 M hK hZ hw hl.1 hs hnd hs0 rfl rfl ⟨Nat.le_refl _, Nat.le_refl _⟩ ⟨Nat.zero_le _, Nat.zero_le _⟩ rfl rfl (Nat.le_of_ble_eq_true rfl) dL_tryBid_2 (fun r sg hp ha H locs hw => ?_)
  exact hret _ _ _ r _ _ 0 0 (by decide) (by decide) dL_tryBid_5 hw (xPut_ads hs hnd ha) (hpp r sg hp)
set_option maxHeartbeats 1000000 in
theorem lt_tryBid_eIOB (l : Launch) (G : va_G) (Y : Nat → Nat) (xo : Nat) (c1 : Int32) {fs : List Value} {segs segsC : List va_W} (is : List Nat) {fr lo : Nat} (hC : CtT l yX5_bid cX5_bid 2 (some .int) fr lo [.ref xo, .int c1] segsC eIOB G Y) (hs0 : segs[0]? = some [(xo, .inr (4, fs))]) (hs : is.map (fun i => segs[i]?) = segsC.map some) (hnd : va_nd is = true) : CtL l yL_tryBid cL_tryBid 3 [(0, 5, 6, 13), (0, 5, 10, 19)] (fr + 1) (8 + (2 + 11) + lo) [.ref xo, .int c1] segs (fun k sg => k = (-9999001) ∧ sg = segs) G Y := by
  refine x_ofL (by decide) (Nat.le_of_ble_eq_true rfl) (fun p e s m args below meth c A ls Q M hK hZ hN hw hl htab hret => ?_)
  obtain ⟨hx, hb, -⟩ := id M
  have hl : lv_has ls 3 [(0, .ref xo), (1, .int c1)] := hl
  refine lv_aload_n hx hb dL_tryBid_0 rfl (lv_at hl 0 rfl) ?_
  refine lv_iload_n hx hb dL_tryBid_1 rfl (lv_at hl 1 rfl) ?_
  refine x_catchV (As := [.int c1]) (ri := 0) (rj := 0) (pre := []) (xh := { startPc := 0, endPc := 5, handlerPc := 6, catchType := 13 }) (suf := [{ startPc := 0, endPc := 5, handlerPc := 10, catchType := 19 }]) hC cw_L_73 is M hK hZ hw hl.1 hs hnd hs0 rfl rfl ⟨Nat.le_refl _, Nat.le_refl _⟩ ⟨Nat.le_refl _, Nat.le_refl _⟩ rfl rfl (Nat.le_of_ble_eq_true rfl) dL_tryBid_2 (htab.trans rfl) (fun z hz => nomatch hz) (by decide) (by decide) mw_683 (cast_self (M.2.2.2.2 _ mw_694)) (fun q H locs hw => ?_)
  refine lv_astore_n (lv' := [(2, .ref q), (0, .ref xo), (1, .int c1)]) hx hb dL_tryBid_6 rfl hl (by decide) rfl (fun ls hl => ?_)
  refine lv_ldc (v := (-9999001)) hx hb M.2.2.2.1 (M.2.2.2.2 _ mw_711) dL_tryBid_7 ?_
  exact hret _ _ _ (-9999001) _ _ 1 6 (by decide) (by decide) dL_tryBid_9 hw rfl ⟨rfl, rfl⟩
set_option maxHeartbeats 1000000 in
theorem lt_tryBid_eISE (l : Launch) (G : va_G) (Y : Nat → Nat) (xo : Nat) (c1 : Int32) {fs : List Value} {segs segsC : List va_W} (is : List Nat) {fr lo : Nat} (hC : CtT l yX5_bid cX5_bid 2 (some .int) fr lo [.ref xo, .int c1] segsC eISE G Y) (hs0 : segs[0]? = some [(xo, .inr (4, fs))]) (hs : is.map (fun i => segs[i]?) = segsC.map some) (hnd : va_nd is = true) : CtL l yL_tryBid cL_tryBid 3 [(0, 5, 6, 13), (0, 5, 10, 19)] (fr + 1) (8 + (2 + 11) + lo) [.ref xo, .int c1] segs (fun k sg => k = (-9999003) ∧ sg = segs) G Y := by
  refine x_ofL (by decide) (Nat.le_of_ble_eq_true rfl) (fun p e s m args below meth c A ls Q M hK hZ hN hw hl htab hret => ?_)
  obtain ⟨hx, hb, -⟩ := id M
  have hl : lv_has ls 3 [(0, .ref xo), (1, .int c1)] := hl
  refine lv_aload_n hx hb dL_tryBid_0 rfl (lv_at hl 0 rfl) ?_
  refine lv_iload_n hx hb dL_tryBid_1 rfl (lv_at hl 1 rfl) ?_
  refine x_catchV (As := [.int c1]) (ri := 0) (rj := 0) (pre := [{ startPc := 0, endPc := 5, handlerPc := 6, catchType := 13 }]) (xh := { startPc := 0, endPc := 5, handlerPc := 10, catchType := 19 }) (suf := []) hC cw_L_73 is M hK hZ hw hl.1 hs hnd hs0 rfl rfl ⟨Nat.le_refl _, Nat.le_refl _⟩ ⟨Nat.le_refl _, Nat.le_refl _⟩ rfl rfl (Nat.le_of_ble_eq_true rfl) dL_tryBid_2 (htab.trans rfl) (fun z hz => by obtain rfl := List.mem_singleton.mp hz; exact Or.inr ⟨by decide, _, mw_683, hN.2.1⟩) (by decide) (by decide) mw_453 (cast_self (M.2.2.2.2 _ mw_464)) (fun q H locs hw => ?_)
  refine lv_astore_n (lv' := [(2, .ref q), (0, .ref xo), (1, .int c1)]) hx hb dL_tryBid_10 rfl hl (by decide) rfl (fun ls hl => ?_)
  refine lv_ldc (v := (-9999003)) hx hb M.2.2.2.1 (M.2.2.2.2 _ mw_483) dL_tryBid_11 ?_
  exact hret _ _ _ (-9999003) _ _ 1 6 (by decide) (by decide) dL_tryBid_13 hw rfl ⟨rfl, rfl⟩
set_option maxHeartbeats 1000000 in
theorem lk_tryClose (l : Launch) (G : va_G) (Y : Nat → Nat) (xo : Nat)  {fs : List Value} {segs segsC : List va_W} (is : List Nat) {post : Int32 → List va_W → Prop} {fr lo : Nat} (hC : CtI l yX5_close cX5_close 1 .int fr lo [.ref xo] segsC post G Y) (hs0 : segs[0]? = some [(xo, .inr (4, fs))]) (hs : is.map (fun i => segs[i]?) = segsC.map some) (hnd : va_nd is = true) {post2 : Int32 → List va_W → Prop} (hpp : ∀ r sg1, post r sg1 → post2 r (xPut segs is sg1)) : CtL l yL_tryClose cL_tryClose 2 [(0, 4, 5, 19)] (fr + 1) (8 + (1 + 11) + lo) [.ref xo] segs post2 G Y := by
  refine x_ofL (by decide) (Nat.le_of_ble_eq_true rfl) (fun p e s m args below meth c A ls Q M hK hZ hN hw hl htab hret => ?_)
  obtain ⟨hx, hb, -⟩ := id M
  have hl : lv_has ls 2 [(0, .ref xo)] := hl
  refine lv_aload_n hx hb dL_tryClose_0 rfl (lv_at hl 0 rfl) ?_
  refine x_cVI2 (As := []) hC cw_L_76 is 0 0 M hK hZ hw hl.1 hs hnd hs0 rfl rfl ⟨Nat.le_refl _, Nat.le_refl _⟩ ⟨Nat.zero_le _, Nat.zero_le _⟩ rfl rfl (Nat.le_of_ble_eq_true rfl) dL_tryClose_1 (fun r sg hp ha H locs hw => ?_)
  exact hret _ _ _ r _ _ 0 0 (by decide) (by decide) dL_tryClose_4 hw (xPut_ads hs hnd ha) (hpp r sg hp)
set_option maxHeartbeats 1000000 in
theorem lt_tryClose_eISE (l : Launch) (G : va_G) (Y : Nat → Nat) (xo : Nat)  {fs : List Value} {segs segsC : List va_W} (is : List Nat) {fr lo : Nat} (hC : CtT l yX5_close cX5_close 1 (some .int) fr lo [.ref xo] segsC eISE G Y) (hs0 : segs[0]? = some [(xo, .inr (4, fs))]) (hs : is.map (fun i => segs[i]?) = segsC.map some) (hnd : va_nd is = true) : CtL l yL_tryClose cL_tryClose 2 [(0, 4, 5, 19)] (fr + 1) (8 + (1 + 11) + lo) [.ref xo] segs (fun k sg => k = (-9999003) ∧ sg = segs) G Y := by
  refine x_ofL (by decide) (Nat.le_of_ble_eq_true rfl) (fun p e s m args below meth c A ls Q M hK hZ hN hw hl htab hret => ?_)
  obtain ⟨hx, hb, -⟩ := id M
  have hl : lv_has ls 2 [(0, .ref xo)] := hl
  refine lv_aload_n hx hb dL_tryClose_0 rfl (lv_at hl 0 rfl) ?_
  refine x_catchV (As := []) (ri := 0) (rj := 0) (pre := []) (xh := { startPc := 0, endPc := 4, handlerPc := 5, catchType := 19 }) (suf := []) hC cw_L_76 is M hK hZ hw hl.1 hs hnd hs0 rfl rfl ⟨Nat.le_refl _, Nat.le_refl _⟩ ⟨Nat.le_refl _, Nat.le_refl _⟩ rfl rfl (Nat.le_of_ble_eq_true rfl) dL_tryClose_1 (htab.trans rfl) (fun z hz => nomatch hz) (by decide) (by decide) mw_453 (cast_self (M.2.2.2.2 _ mw_464)) (fun q H locs hw => ?_)
  refine lv_astore_n (lv' := [(1, .ref q), (0, .ref xo)]) hx hb dL_tryClose_5 rfl hl (by decide) rfl (fun ls hl => ?_)
  refine lv_ldc (v := (-9999003)) hx hb M.2.2.2.1 (M.2.2.2.2 _ mw_483) dL_tryClose_6 ?_
  exact hret _ _ _ (-9999003) _ _ 1 6 (by decide) (by decide) dL_tryClose_8 hw rfl ⟨rfl, rfl⟩
set_option maxHeartbeats 1000000 in
theorem lk_tryDrop (l : Launch) (G : va_G) (Y : Nat → Nat) (xo : Nat) (c1 : Int32) (c2 : Int32) {fs : List Value} {segs segsC : List va_W} (is : List Nat) {post : Int32 → List va_W → Prop} {fr lo : Nat} (hC : CtI l yX5_drop cX5_drop 3 .int fr lo [.ref xo, .int c1, .int c2] segsC post G Y) (hs0 : segs[0]? = some [(xo, .inr (4, fs))]) (hs : is.map (fun i => segs[i]?) = segsC.map some) (hnd : va_nd is = true) {post2 : Int32 → List va_W → Prop} (hpp : ∀ r sg1, post r sg1 → post2 r (xPut segs is sg1)) : CtL l yL_tryDrop cL_tryDrop 4 [(0, 6, 7, 13)] (fr + 1) (8 + (3 + 11) + lo) [.ref xo, .int c1, .int c2] segs post2 G Y := by
  refine x_ofL (by decide) (Nat.le_of_ble_eq_true rfl) (fun p e s m args below meth c A ls Q M hK hZ hN hw hl htab hret => ?_)
  obtain ⟨hx, hb, -⟩ := id M
  have hl : lv_has ls 4 [(0, .ref xo), (1, .int c1), (2, .int c2)] := hl
  refine lv_aload_n hx hb dL_tryDrop_0 rfl (lv_at hl 0 rfl) ?_
  refine lv_iload_n hx hb dL_tryDrop_1 rfl (lv_at hl 1 rfl) ?_
  refine lv_iload_n hx hb dL_tryDrop_2 rfl (lv_at hl 2 rfl) ?_
  refine x_cVI2 (As := [.int c1, .int c2]) hC cw_L_79 is 0 0 M hK hZ hw hl.1 hs hnd hs0 rfl rfl ⟨Nat.le_refl _, Nat.le_refl _⟩ ⟨Nat.zero_le _, Nat.zero_le _⟩ rfl rfl (Nat.le_of_ble_eq_true rfl) dL_tryDrop_3 (fun r sg hp ha H locs hw => ?_)
  exact hret _ _ _ r _ _ 0 0 (by decide) (by decide) dL_tryDrop_6 hw (xPut_ads hs hnd ha) (hpp r sg hp)
set_option maxHeartbeats 1000000 in
theorem lt_tryDrop_eIOB (l : Launch) (G : va_G) (Y : Nat → Nat) (xo : Nat) (c1 : Int32) (c2 : Int32) {fs : List Value} {segs segsC : List va_W} (is : List Nat) {fr lo : Nat} (hC : CtT l yX5_drop cX5_drop 3 (some .int) fr lo [.ref xo, .int c1, .int c2] segsC eIOB G Y) (hs0 : segs[0]? = some [(xo, .inr (4, fs))]) (hs : is.map (fun i => segs[i]?) = segsC.map some) (hnd : va_nd is = true) : CtL l yL_tryDrop cL_tryDrop 4 [(0, 6, 7, 13)] (fr + 1) (8 + (3 + 11) + lo) [.ref xo, .int c1, .int c2] segs (fun k sg => k = (-9999001) ∧ sg = segs) G Y := by
  refine x_ofL (by decide) (Nat.le_of_ble_eq_true rfl) (fun p e s m args below meth c A ls Q M hK hZ hN hw hl htab hret => ?_)
  obtain ⟨hx, hb, -⟩ := id M
  have hl : lv_has ls 4 [(0, .ref xo), (1, .int c1), (2, .int c2)] := hl
  refine lv_aload_n hx hb dL_tryDrop_0 rfl (lv_at hl 0 rfl) ?_
  refine lv_iload_n hx hb dL_tryDrop_1 rfl (lv_at hl 1 rfl) ?_
  refine lv_iload_n hx hb dL_tryDrop_2 rfl (lv_at hl 2 rfl) ?_
  refine x_catchV (As := [.int c1, .int c2]) (ri := 0) (rj := 0) (pre := []) (xh := { startPc := 0, endPc := 6, handlerPc := 7, catchType := 13 }) (suf := []) hC cw_L_79 is M hK hZ hw hl.1 hs hnd hs0 rfl rfl ⟨Nat.le_refl _, Nat.le_refl _⟩ ⟨Nat.le_refl _, Nat.le_refl _⟩ rfl rfl (Nat.le_of_ble_eq_true rfl) dL_tryDrop_3 (htab.trans rfl) (fun z hz => nomatch hz) (by decide) (by decide) mw_683 (cast_self (M.2.2.2.2 _ mw_694)) (fun q H locs hw => ?_)
  refine lv_astore_n (lv' := [(3, .ref q), (0, .ref xo), (1, .int c1), (2, .int c2)]) hx hb dL_tryDrop_7 rfl hl (by decide) rfl (fun ls hl => ?_)
  refine lv_ldc (v := (-9999001)) hx hb M.2.2.2.1 (M.2.2.2.2 _ mw_711) dL_tryDrop_8 ?_
  exact hret _ _ _ (-9999001) _ _ 1 6 (by decide) (by decide) dL_tryDrop_10 hw rfl ⟨rfl, rfl⟩
set_option maxHeartbeats 1000000 in
theorem lk_trySet (l : Launch) (G : va_G) (Y : Nat → Nat) (xo : Nat) (c1 : Int32) (c2 : Int32) {fs : List Value} {segs segsC : List va_W} (is : List Nat) {post : Int32 → List va_W → Prop} {fr lo : Nat} (hC : CtI l yX5_set cX5_set 4 .int fr lo [.ref xo, .int c1, .int c2] segsC post G Y) (hs0 : segs[0]? = some [(xo, .inr (4, fs))]) (hs : is.map (fun i => segs[i]?) = segsC.map some) (hnd : va_nd is = true) {post2 : Int32 → List va_W → Prop} (hpp : ∀ r sg1, post r sg1 → post2 r (xPut segs is sg1)) : CtL l yL_trySet cL_trySet 4 [(0, 6, 7, 16)] (fr + 1) (8 + (4 + 11) + lo) [.ref xo, .int c1, .int c2] segs post2 G Y := by
  refine x_ofL (by decide) (Nat.le_of_ble_eq_true rfl) (fun p e s m args below meth c A ls Q M hK hZ hN hw hl htab hret => ?_)
  obtain ⟨hx, hb, -⟩ := id M
  have hl : lv_has ls 4 [(0, .ref xo), (1, .int c1), (2, .int c2)] := hl
  refine lv_aload_n hx hb dL_trySet_0 rfl (lv_at hl 0 rfl) ?_
  refine lv_iload_n hx hb dL_trySet_1 rfl (lv_at hl 1 rfl) ?_
  refine lv_iload_n hx hb dL_trySet_2 rfl (lv_at hl 2 rfl) ?_
  refine x_cVI2 (As := [.int c1, .int c2]) hC cw_L_82 is 0 0 M hK hZ hw hl.1 hs hnd hs0 rfl rfl ⟨Nat.le_refl _, Nat.le_refl _⟩ ⟨Nat.zero_le _, Nat.zero_le _⟩ rfl rfl (Nat.le_of_ble_eq_true rfl) dL_trySet_3 (fun r sg hp ha H locs hw => ?_)
  exact hret _ _ _ r _ _ 0 0 (by decide) (by decide) dL_trySet_6 hw (xPut_ads hs hnd ha) (hpp r sg hp)
set_option maxHeartbeats 1000000 in
theorem lt_trySet_eIAE (l : Launch) (G : va_G) (Y : Nat → Nat) (xo : Nat) (c1 : Int32) (c2 : Int32) {fs : List Value} {segs segsC : List va_W} (is : List Nat) {fr lo : Nat} (hC : CtT l yX5_set cX5_set 4 (some .int) fr lo [.ref xo, .int c1, .int c2] segsC eIAE G Y) (hs0 : segs[0]? = some [(xo, .inr (4, fs))]) (hs : is.map (fun i => segs[i]?) = segsC.map some) (hnd : va_nd is = true) : CtL l yL_trySet cL_trySet 4 [(0, 6, 7, 16)] (fr + 1) (8 + (4 + 11) + lo) [.ref xo, .int c1, .int c2] segs (fun k sg => k = (-9999002) ∧ sg = segs) G Y := by
  refine x_ofL (by decide) (Nat.le_of_ble_eq_true rfl) (fun p e s m args below meth c A ls Q M hK hZ hN hw hl htab hret => ?_)
  obtain ⟨hx, hb, -⟩ := id M
  have hl : lv_has ls 4 [(0, .ref xo), (1, .int c1), (2, .int c2)] := hl
  refine lv_aload_n hx hb dL_trySet_0 rfl (lv_at hl 0 rfl) ?_
  refine lv_iload_n hx hb dL_trySet_1 rfl (lv_at hl 1 rfl) ?_
  refine lv_iload_n hx hb dL_trySet_2 rfl (lv_at hl 2 rfl) ?_
  refine x_catchV (As := [.int c1, .int c2]) (ri := 0) (rj := 0) (pre := []) (xh := { startPc := 0, endPc := 6, handlerPc := 7, catchType := 16 }) (suf := []) hC cw_L_82 is M hK hZ hw hl.1 hs hnd hs0 rfl rfl ⟨Nat.le_refl _, Nat.le_refl _⟩ ⟨Nat.le_refl _, Nat.le_refl _⟩ rfl rfl (Nat.le_of_ble_eq_true rfl) dL_trySet_3 (htab.trans rfl) (fun z hz => nomatch hz) (by decide) (by decide) mw_181 (cast_self (M.2.2.2.2 _ mw_190)) (fun q H locs hw => ?_)
  refine lv_astore_n (lv' := [(3, .ref q), (0, .ref xo), (1, .int c1), (2, .int c2)]) hx hb dL_trySet_7 rfl hl (by decide) rfl (fun ls hl => ?_)
  refine lv_ldc (v := (-9999002)) hx hb M.2.2.2.1 (M.2.2.2.2 _ mw_387) dL_trySet_8 ?_
  exact hret _ _ _ (-9999002) _ _ 1 6 (by decide) (by decide) dL_trySet_10 hw rfl ⟨rfl, rfl⟩
set_option maxHeartbeats 1000000 in
theorem lk_tryUndo (l : Launch) (G : va_G) (Y : Nat → Nat) (xo : Nat)  {fs : List Value} {segs segsC : List va_W} (is : List Nat) {post : Int32 → List va_W → Prop} {fr lo : Nat} (hC : CtI l yX5_undo cX5_undo 1 .int fr lo [.ref xo] segsC post G Y) (hs0 : segs[0]? = some [(xo, .inr (4, fs))]) (hs : is.map (fun i => segs[i]?) = segsC.map some) (hnd : va_nd is = true) {post2 : Int32 → List va_W → Prop} (hpp : ∀ r sg1, post r sg1 → post2 r (xPut segs is sg1)) : CtL l yL_tryUndo cL_tryUndo 2 [(0, 4, 5, 19)] (fr + 1) (8 + (1 + 11) + lo) [.ref xo] segs post2 G Y := by
  refine x_ofL (by decide) (Nat.le_of_ble_eq_true rfl) (fun p e s m args below meth c A ls Q M hK hZ hN hw hl htab hret => ?_)
  obtain ⟨hx, hb, -⟩ := id M
  have hl : lv_has ls 2 [(0, .ref xo)] := hl
  refine lv_aload_n hx hb dL_tryUndo_0 rfl (lv_at hl 0 rfl) ?_
  refine x_cVI2 (As := []) hC cw_L_85 is 0 0 M hK hZ hw hl.1 hs hnd hs0 rfl rfl ⟨Nat.le_refl _, Nat.le_refl _⟩ ⟨Nat.zero_le _, Nat.zero_le _⟩ rfl rfl (Nat.le_of_ble_eq_true rfl) dL_tryUndo_1 (fun r sg hp ha H locs hw => ?_)
  exact hret _ _ _ r _ _ 0 0 (by decide) (by decide) dL_tryUndo_4 hw (xPut_ads hs hnd ha) (hpp r sg hp)
set_option maxHeartbeats 1000000 in
theorem lt_tryUndo_eISE (l : Launch) (G : va_G) (Y : Nat → Nat) (xo : Nat)  {fs : List Value} {segs segsC : List va_W} (is : List Nat) {fr lo : Nat} (hC : CtT l yX5_undo cX5_undo 1 (some .int) fr lo [.ref xo] segsC eISE G Y) (hs0 : segs[0]? = some [(xo, .inr (4, fs))]) (hs : is.map (fun i => segs[i]?) = segsC.map some) (hnd : va_nd is = true) : CtL l yL_tryUndo cL_tryUndo 2 [(0, 4, 5, 19)] (fr + 1) (8 + (1 + 11) + lo) [.ref xo] segs (fun k sg => k = (-9999003) ∧ sg = segs) G Y := by
  refine x_ofL (by decide) (Nat.le_of_ble_eq_true rfl) (fun p e s m args below meth c A ls Q M hK hZ hN hw hl htab hret => ?_)
  obtain ⟨hx, hb, -⟩ := id M
  have hl : lv_has ls 2 [(0, .ref xo)] := hl
  refine lv_aload_n hx hb dL_tryUndo_0 rfl (lv_at hl 0 rfl) ?_
  refine x_catchV (As := []) (ri := 0) (rj := 0) (pre := []) (xh := { startPc := 0, endPc := 4, handlerPc := 5, catchType := 19 }) (suf := []) hC cw_L_85 is M hK hZ hw hl.1 hs hnd hs0 rfl rfl ⟨Nat.le_refl _, Nat.le_refl _⟩ ⟨Nat.le_refl _, Nat.le_refl _⟩ rfl rfl (Nat.le_of_ble_eq_true rfl) dL_tryUndo_1 (htab.trans rfl) (fun z hz => nomatch hz) (by decide) (by decide) mw_453 (cast_self (M.2.2.2.2 _ mw_464)) (fun q H locs hw => ?_)
  refine lv_astore_n (lv' := [(1, .ref q), (0, .ref xo)]) hx hb dL_tryUndo_5 rfl hl (by decide) rfl (fun ls hl => ?_)
  refine lv_ldc (v := (-9999003)) hx hb M.2.2.2.1 (M.2.2.2.2 _ mw_483) dL_tryUndo_6 ?_
  exact hret _ _ _ (-9999003) _ _ 1 6 (by decide) (by decide) dL_tryUndo_8 hw rfl ⟨rfl, rfl⟩
set_option maxHeartbeats 1000000 in
theorem lk_tryGets (l : Launch) (G : va_G) (Y : Nat → Nat) (xo : Nat) (c1 : Int32) {fs : List Value} {segs segsC : List va_W} (is : List Nat) {post : Int32 → List va_W → Prop} {fr lo : Nat} (hC : CtI l yX5_gets cX5_gets 2 .int fr lo [.ref xo, .int c1] segsC post G Y) (hs0 : segs[0]? = some [(xo, .inr (4, fs))]) (hs : is.map (fun i => segs[i]?) = segsC.map some) (hnd : va_nd is = true) {post2 : Int32 → List va_W → Prop} (hpp : ∀ r sg1, post r sg1 → post2 r (xPut segs is sg1)) : CtL l yL_tryGets cL_tryGets 3 [(0, 5, 6, 13)] (fr + 1) (8 + (2 + 11) + lo) [.ref xo, .int c1] segs post2 G Y := by
  refine x_ofL (by decide) (Nat.le_of_ble_eq_true rfl) (fun p e s m args below meth c A ls Q M hK hZ hN hw hl htab hret => ?_)
  obtain ⟨hx, hb, -⟩ := id M
  have hl : lv_has ls 3 [(0, .ref xo), (1, .int c1)] := hl
  refine lv_aload_n hx hb dL_tryGets_0 rfl (lv_at hl 0 rfl) ?_
  refine lv_iload_n hx hb dL_tryGets_1 rfl (lv_at hl 1 rfl) ?_
  refine x_cVI2 (As := [.int c1]) hC cw_L_88 is 0 0 M hK hZ hw hl.1 hs hnd hs0 rfl rfl ⟨Nat.le_refl _, Nat.le_refl _⟩ ⟨Nat.zero_le _, Nat.zero_le _⟩ rfl rfl (Nat.le_of_ble_eq_true rfl) dL_tryGets_2 (fun r sg hp ha H locs hw => ?_)
  exact hret _ _ _ r _ _ 0 0 (by decide) (by decide) dL_tryGets_5 hw (xPut_ads hs hnd ha) (hpp r sg hp)
set_option maxHeartbeats 1000000 in
theorem lt_tryGets_eIOB (l : Launch) (G : va_G) (Y : Nat → Nat) (xo : Nat) (c1 : Int32) {fs : List Value} {segs segsC : List va_W} (is : List Nat) {fr lo : Nat} (hC : CtT l yX5_gets cX5_gets 2 (some .int) fr lo [.ref xo, .int c1] segsC eIOB G Y) (hs0 : segs[0]? = some [(xo, .inr (4, fs))]) (hs : is.map (fun i => segs[i]?) = segsC.map some) (hnd : va_nd is = true) : CtL l yL_tryGets cL_tryGets 3 [(0, 5, 6, 13)] (fr + 1) (8 + (2 + 11) + lo) [.ref xo, .int c1] segs (fun k sg => k = (-9999001) ∧ sg = segs) G Y := by
  refine x_ofL (by decide) (Nat.le_of_ble_eq_true rfl) (fun p e s m args below meth c A ls Q M hK hZ hN hw hl htab hret => ?_)
  obtain ⟨hx, hb, -⟩ := id M
  have hl : lv_has ls 3 [(0, .ref xo), (1, .int c1)] := hl
  refine lv_aload_n hx hb dL_tryGets_0 rfl (lv_at hl 0 rfl) ?_
  refine lv_iload_n hx hb dL_tryGets_1 rfl (lv_at hl 1 rfl) ?_
  refine x_catchV (As := [.int c1]) (ri := 0) (rj := 0) (pre := []) (xh := { startPc := 0, endPc := 5, handlerPc := 6, catchType := 13 }) (suf := []) hC cw_L_88 is M hK hZ hw hl.1 hs hnd hs0 rfl rfl ⟨Nat.le_refl _, Nat.le_refl _⟩ ⟨Nat.le_refl _, Nat.le_refl _⟩ rfl rfl (Nat.le_of_ble_eq_true rfl) dL_tryGets_2 (htab.trans rfl) (fun z hz => nomatch hz) (by decide) (by decide) mw_683 (cast_self (M.2.2.2.2 _ mw_694)) (fun q H locs hw => ?_)
  refine lv_astore_n (lv' := [(2, .ref q), (0, .ref xo), (1, .int c1)]) hx hb dL_tryGets_6 rfl hl (by decide) rfl (fun ls hl => ?_)
  refine lv_ldc (v := (-9999001)) hx hb M.2.2.2.1 (M.2.2.2.2 _ mw_711) dL_tryGets_7 ?_
  exact hret _ _ _ (-9999001) _ _ 1 6 (by decide) (by decide) dL_tryGets_9 hw rfl ⟨rfl, rfl⟩
set_option maxHeartbeats 1000000 in
theorem lk_tryPays (l : Launch) (G : va_G) (Y : Nat → Nat) (xo : Nat) (c1 : Int32) {fs : List Value} {segs segsC : List va_W} (is : List Nat) {post : Int32 → List va_W → Prop} {fr lo : Nat} (hC : CtI l yX5_pays cX5_pays 5 .int fr lo [.ref xo, .int c1] segsC post G Y) (hs0 : segs[0]? = some [(xo, .inr (4, fs))]) (hs : is.map (fun i => segs[i]?) = segsC.map some) (hnd : va_nd is = true) {post2 : Int32 → List va_W → Prop} (hpp : ∀ r sg1, post r sg1 → post2 r (xPut segs is sg1)) : CtL l yL_tryPays cL_tryPays 3 [(0, 5, 6, 13)] (fr + 1) (8 + (5 + 11) + lo) [.ref xo, .int c1] segs post2 G Y := by
  refine x_ofL (by decide) (Nat.le_of_ble_eq_true rfl) (fun p e s m args below meth c A ls Q M hK hZ hN hw hl htab hret => ?_)
  obtain ⟨hx, hb, -⟩ := id M
  have hl : lv_has ls 3 [(0, .ref xo), (1, .int c1)] := hl
  refine lv_aload_n hx hb dL_tryPays_0 rfl (lv_at hl 0 rfl) ?_
  refine lv_iload_n hx hb dL_tryPays_1 rfl (lv_at hl 1 rfl) ?_
  refine x_cVI2 (As := [.int c1]) hC cw_L_91 is 0 0 M hK hZ hw hl.1 hs hnd hs0 rfl rfl ⟨Nat.le_refl _, Nat.le_refl _⟩ ⟨Nat.zero_le _, Nat.zero_le _⟩ rfl rfl (Nat.le_of_ble_eq_true rfl) dL_tryPays_2 (fun r sg hp ha H locs hw => ?_)
  exact hret _ _ _ r _ _ 0 0 (by decide) (by decide) dL_tryPays_5 hw (xPut_ads hs hnd ha) (hpp r sg hp)
set_option maxHeartbeats 1000000 in
theorem lt_tryPays_eIOB (l : Launch) (G : va_G) (Y : Nat → Nat) (xo : Nat) (c1 : Int32) {fs : List Value} {segs segsC : List va_W} (is : List Nat) {fr lo : Nat} (hC : CtT l yX5_pays cX5_pays 5 (some .int) fr lo [.ref xo, .int c1] segsC eIOB G Y) (hs0 : segs[0]? = some [(xo, .inr (4, fs))]) (hs : is.map (fun i => segs[i]?) = segsC.map some) (hnd : va_nd is = true) : CtL l yL_tryPays cL_tryPays 3 [(0, 5, 6, 13)] (fr + 1) (8 + (5 + 11) + lo) [.ref xo, .int c1] segs (fun k sg => k = (-9999001) ∧ sg = segs) G Y := by
  refine x_ofL (by decide) (Nat.le_of_ble_eq_true rfl) (fun p e s m args below meth c A ls Q M hK hZ hN hw hl htab hret => ?_)
  obtain ⟨hx, hb, -⟩ := id M
  have hl : lv_has ls 3 [(0, .ref xo), (1, .int c1)] := hl
  refine lv_aload_n hx hb dL_tryPays_0 rfl (lv_at hl 0 rfl) ?_
  refine lv_iload_n hx hb dL_tryPays_1 rfl (lv_at hl 1 rfl) ?_
  refine x_catchV (As := [.int c1]) (ri := 0) (rj := 0) (pre := []) (xh := { startPc := 0, endPc := 5, handlerPc := 6, catchType := 13 }) (suf := []) hC cw_L_91 is M hK hZ hw hl.1 hs hnd hs0 rfl rfl ⟨Nat.le_refl _, Nat.le_refl _⟩ ⟨Nat.le_refl _, Nat.le_refl _⟩ rfl rfl (Nat.le_of_ble_eq_true rfl) dL_tryPays_2 (htab.trans rfl) (fun z hz => nomatch hz) (by decide) (by decide) mw_683 (cast_self (M.2.2.2.2 _ mw_694)) (fun q H locs hw => ?_)
  refine lv_astore_n (lv' := [(2, .ref q), (0, .ref xo), (1, .int c1)]) hx hb dL_tryPays_6 rfl hl (by decide) rfl (fun ls hl => ?_)
  refine lv_ldc (v := (-9999001)) hx hb M.2.2.2.1 (M.2.2.2.2 _ mw_711) dL_tryPays_7 ?_
  exact hret _ _ _ (-9999001) _ _ 1 6 (by decide) (by decide) dL_tryPays_9 hw rfl ⟨rfl, rfl⟩
set_option maxHeartbeats 1000000 in
theorem lk_tryOneMore (l : Launch) (G : va_G) (Y : Nat → Nat) (xo : Nat) (c1 : Int32) {fs : List Value} {segs segsC : List va_W} (is : List Nat) {post : Int32 → List va_W → Prop} {fr lo : Nat} (hC : CtI l yX5_oneMore cX5_oneMore 3 .int fr lo [.ref xo, .int c1] segsC post G Y) (hs0 : segs[0]? = some [(xo, .inr (4, fs))]) (hs : is.map (fun i => segs[i]?) = segsC.map some) (hnd : va_nd is = true) {post2 : Int32 → List va_W → Prop} (hpp : ∀ r sg1, post r sg1 → post2 r (xPut segs is sg1)) : CtL l yL_tryOneMore cL_tryOneMore 3 [(0, 5, 6, 13)] (fr + 1) (8 + (3 + 11) + lo) [.ref xo, .int c1] segs post2 G Y := by
  refine x_ofL (by decide) (Nat.le_of_ble_eq_true rfl) (fun p e s m args below meth c A ls Q M hK hZ hN hw hl htab hret => ?_)
  obtain ⟨hx, hb, -⟩ := id M
  have hl : lv_has ls 3 [(0, .ref xo), (1, .int c1)] := hl
  refine lv_aload_n hx hb dL_tryOneMore_0 rfl (lv_at hl 0 rfl) ?_
  refine lv_iload_n hx hb dL_tryOneMore_1 rfl (lv_at hl 1 rfl) ?_
  refine x_cVI2 (As := [.int c1]) hC cw_L_94 is 0 0 M hK hZ hw hl.1 hs hnd hs0 rfl rfl ⟨Nat.le_refl _, Nat.le_refl _⟩ ⟨Nat.zero_le _, Nat.zero_le _⟩ rfl rfl (Nat.le_of_ble_eq_true rfl) dL_tryOneMore_2 (fun r sg hp ha H locs hw => ?_)
  exact hret _ _ _ r _ _ 0 0 (by decide) (by decide) dL_tryOneMore_5 hw (xPut_ads hs hnd ha) (hpp r sg hp)
set_option maxHeartbeats 1000000 in
theorem lt_tryOneMore_eIOB (l : Launch) (G : va_G) (Y : Nat → Nat) (xo : Nat) (c1 : Int32) {fs : List Value} {segs segsC : List va_W} (is : List Nat) {fr lo : Nat} (hC : CtT l yX5_oneMore cX5_oneMore 3 (some .int) fr lo [.ref xo, .int c1] segsC eIOB G Y) (hs0 : segs[0]? = some [(xo, .inr (4, fs))]) (hs : is.map (fun i => segs[i]?) = segsC.map some) (hnd : va_nd is = true) : CtL l yL_tryOneMore cL_tryOneMore 3 [(0, 5, 6, 13)] (fr + 1) (8 + (3 + 11) + lo) [.ref xo, .int c1] segs (fun k sg => k = (-9999001) ∧ sg = segs) G Y := by
  refine x_ofL (by decide) (Nat.le_of_ble_eq_true rfl) (fun p e s m args below meth c A ls Q M hK hZ hN hw hl htab hret => ?_)
  obtain ⟨hx, hb, -⟩ := id M
  have hl : lv_has ls 3 [(0, .ref xo), (1, .int c1)] := hl
  refine lv_aload_n hx hb dL_tryOneMore_0 rfl (lv_at hl 0 rfl) ?_
  refine lv_iload_n hx hb dL_tryOneMore_1 rfl (lv_at hl 1 rfl) ?_
  refine x_catchV (As := [.int c1]) (ri := 0) (rj := 0) (pre := []) (xh := { startPc := 0, endPc := 5, handlerPc := 6, catchType := 13 }) (suf := []) hC cw_L_94 is M hK hZ hw hl.1 hs hnd hs0 rfl rfl ⟨Nat.le_refl _, Nat.le_refl _⟩ ⟨Nat.le_refl _, Nat.le_refl _⟩ rfl rfl (Nat.le_of_ble_eq_true rfl) dL_tryOneMore_2 (htab.trans rfl) (fun z hz => nomatch hz) (by decide) (by decide) mw_683 (cast_self (M.2.2.2.2 _ mw_694)) (fun q H locs hw => ?_)
  refine lv_astore_n (lv' := [(2, .ref q), (0, .ref xo), (1, .int c1)]) hx hb dL_tryOneMore_6 rfl hl (by decide) rfl (fun ls hl => ?_)
  refine lv_ldc (v := (-9999001)) hx hb M.2.2.2.1 (M.2.2.2.2 _ mw_711) dL_tryOneMore_7 ?_
  exact hret _ _ _ (-9999001) _ _ 1 6 (by decide) (by decide) dL_tryOneMore_9 hw rfl ⟨rfl, rfl⟩
set_option maxHeartbeats 1000000 in
theorem lk_tryWouldAsk (l : Launch) (G : va_G) (Y : Nat → Nat) (xo : Nat) (c1 : Int32) (c2 : Int32) {fs : List Value} {segs segsC : List va_W} (is : List Nat) {post : Int32 → List va_W → Prop} {fr lo : Nat} (hC : CtI l yX5_wouldAsk cX5_wouldAsk 3 .int fr lo [.ref xo, .int c1, .int c2] segsC post G Y) (hs0 : segs[0]? = some [(xo, .inr (4, fs))]) (hs : is.map (fun i => segs[i]?) = segsC.map some) (hnd : va_nd is = true) {post2 : Int32 → List va_W → Prop} (hpp : ∀ r sg1, post r sg1 → post2 r (xPut segs is sg1)) : CtL l yL_tryWouldAsk cL_tryWouldAsk 4 [(0, 6, 7, 13)] (fr + 1) (8 + (3 + 11) + lo) [.ref xo, .int c1, .int c2] segs post2 G Y := by
  refine x_ofL (by decide) (Nat.le_of_ble_eq_true rfl) (fun p e s m args below meth c A ls Q M hK hZ hN hw hl htab hret => ?_)
  obtain ⟨hx, hb, -⟩ := id M
  have hl : lv_has ls 4 [(0, .ref xo), (1, .int c1), (2, .int c2)] := hl
  refine lv_aload_n hx hb dL_tryWouldAsk_0 rfl (lv_at hl 0 rfl) ?_
  refine lv_iload_n hx hb dL_tryWouldAsk_1 rfl (lv_at hl 1 rfl) ?_
  refine lv_iload_n hx hb dL_tryWouldAsk_2 rfl (lv_at hl 2 rfl) ?_
  refine x_cVI2 (As := [.int c1, .int c2]) hC cw_L_97 is 0 0 M hK hZ hw hl.1 hs hnd hs0 rfl rfl ⟨Nat.le_refl _, Nat.le_refl _⟩ ⟨Nat.zero_le _, Nat.zero_le _⟩ rfl rfl (Nat.le_of_ble_eq_true rfl) dL_tryWouldAsk_3 (fun r sg hp ha H locs hw => ?_)
  exact hret _ _ _ r _ _ 0 0 (by decide) (by decide) dL_tryWouldAsk_6 hw (xPut_ads hs hnd ha) (hpp r sg hp)
set_option maxHeartbeats 1000000 in
theorem lt_tryWouldAsk_eIOB (l : Launch) (G : va_G) (Y : Nat → Nat) (xo : Nat) (c1 : Int32) (c2 : Int32) {fs : List Value} {segs segsC : List va_W} (is : List Nat) {fr lo : Nat} (hC : CtT l yX5_wouldAsk cX5_wouldAsk 3 (some .int) fr lo [.ref xo, .int c1, .int c2] segsC eIOB G Y) (hs0 : segs[0]? = some [(xo, .inr (4, fs))]) (hs : is.map (fun i => segs[i]?) = segsC.map some) (hnd : va_nd is = true) : CtL l yL_tryWouldAsk cL_tryWouldAsk 4 [(0, 6, 7, 13)] (fr + 1) (8 + (3 + 11) + lo) [.ref xo, .int c1, .int c2] segs (fun k sg => k = (-9999001) ∧ sg = segs) G Y := by
  refine x_ofL (by decide) (Nat.le_of_ble_eq_true rfl) (fun p e s m args below meth c A ls Q M hK hZ hN hw hl htab hret => ?_)
  obtain ⟨hx, hb, -⟩ := id M
  have hl : lv_has ls 4 [(0, .ref xo), (1, .int c1), (2, .int c2)] := hl
  refine lv_aload_n hx hb dL_tryWouldAsk_0 rfl (lv_at hl 0 rfl) ?_
  refine lv_iload_n hx hb dL_tryWouldAsk_1 rfl (lv_at hl 1 rfl) ?_
  refine lv_iload_n hx hb dL_tryWouldAsk_2 rfl (lv_at hl 2 rfl) ?_
  refine x_catchV (As := [.int c1, .int c2]) (ri := 0) (rj := 0) (pre := []) (xh := { startPc := 0, endPc := 6, handlerPc := 7, catchType := 13 }) (suf := []) hC cw_L_97 is M hK hZ hw hl.1 hs hnd hs0 rfl rfl ⟨Nat.le_refl _, Nat.le_refl _⟩ ⟨Nat.le_refl _, Nat.le_refl _⟩ rfl rfl (Nat.le_of_ble_eq_true rfl) dL_tryWouldAsk_3 (htab.trans rfl) (fun z hz => nomatch hz) (by decide) (by decide) mw_683 (cast_self (M.2.2.2.2 _ mw_694)) (fun q H locs hw => ?_)
  refine lv_astore_n (lv' := [(3, .ref q), (0, .ref xo), (1, .int c1), (2, .int c2)]) hx hb dL_tryWouldAsk_7 rfl hl (by decide) rfl (fun ls hl => ?_)
  refine lv_ldc (v := (-9999001)) hx hb M.2.2.2.1 (M.2.2.2.2 _ mw_711) dL_tryWouldAsk_8 ?_
  exact hret _ _ _ (-9999001) _ _ 1 6 (by decide) (by decide) dL_tryWouldAsk_10 hw rfl ⟨rfl, rfl⟩
set_option maxHeartbeats 1000000 in
theorem lk_tryEndPrice (l : Launch) (G : va_G) (Y : Nat → Nat) (xo : Nat) (c1 : Int32) {fs : List Value} {segs segsC : List va_W} (is : List Nat) {post : Int32 → List va_W → Prop} {fr lo : Nat} (hC : CtI l yX5_endPrice cX5_endPrice 2 .int fr lo [.ref xo, .int c1] segsC post G Y) (hs0 : segs[0]? = some [(xo, .inr (4, fs))]) (hs : is.map (fun i => segs[i]?) = segsC.map some) (hnd : va_nd is = true) {post2 : Int32 → List va_W → Prop} (hpp : ∀ r sg1, post r sg1 → post2 r (xPut segs is sg1)) : CtL l yL_tryEndPrice cL_tryEndPrice 3 [(0, 5, 6, 13)] (fr + 1) (8 + (2 + 11) + lo) [.ref xo, .int c1] segs post2 G Y := by
  refine x_ofL (by decide) (Nat.le_of_ble_eq_true rfl) (fun p e s m args below meth c A ls Q M hK hZ hN hw hl htab hret => ?_)
  obtain ⟨hx, hb, -⟩ := id M
  have hl : lv_has ls 3 [(0, .ref xo), (1, .int c1)] := hl
  refine lv_aload_n hx hb dL_tryEndPrice_0 rfl (lv_at hl 0 rfl) ?_
  refine lv_iload_n hx hb dL_tryEndPrice_1 rfl (lv_at hl 1 rfl) ?_
  refine x_cVI2 (As := [.int c1]) hC cw_L_100 is 0 0 M hK hZ hw hl.1 hs hnd hs0 rfl rfl ⟨Nat.le_refl _, Nat.le_refl _⟩ ⟨Nat.zero_le _, Nat.zero_le _⟩ rfl rfl (Nat.le_of_ble_eq_true rfl) dL_tryEndPrice_2 (fun r sg hp ha H locs hw => ?_)
  exact hret _ _ _ r _ _ 0 0 (by decide) (by decide) dL_tryEndPrice_5 hw (xPut_ads hs hnd ha) (hpp r sg hp)
set_option maxHeartbeats 1000000 in
theorem lt_tryEndPrice_eIOB (l : Launch) (G : va_G) (Y : Nat → Nat) (xo : Nat) (c1 : Int32) {fs : List Value} {segs segsC : List va_W} (is : List Nat) {fr lo : Nat} (hC : CtT l yX5_endPrice cX5_endPrice 2 (some .int) fr lo [.ref xo, .int c1] segsC eIOB G Y) (hs0 : segs[0]? = some [(xo, .inr (4, fs))]) (hs : is.map (fun i => segs[i]?) = segsC.map some) (hnd : va_nd is = true) : CtL l yL_tryEndPrice cL_tryEndPrice 3 [(0, 5, 6, 13)] (fr + 1) (8 + (2 + 11) + lo) [.ref xo, .int c1] segs (fun k sg => k = (-9999001) ∧ sg = segs) G Y := by
  refine x_ofL (by decide) (Nat.le_of_ble_eq_true rfl) (fun p e s m args below meth c A ls Q M hK hZ hN hw hl htab hret => ?_)
  obtain ⟨hx, hb, -⟩ := id M
  have hl : lv_has ls 3 [(0, .ref xo), (1, .int c1)] := hl
  refine lv_aload_n hx hb dL_tryEndPrice_0 rfl (lv_at hl 0 rfl) ?_
  refine lv_iload_n hx hb dL_tryEndPrice_1 rfl (lv_at hl 1 rfl) ?_
  refine x_catchV (As := [.int c1]) (ri := 0) (rj := 0) (pre := []) (xh := { startPc := 0, endPc := 5, handlerPc := 6, catchType := 13 }) (suf := []) hC cw_L_100 is M hK hZ hw hl.1 hs hnd hs0 rfl rfl ⟨Nat.le_refl _, Nat.le_refl _⟩ ⟨Nat.le_refl _, Nat.le_refl _⟩ rfl rfl (Nat.le_of_ble_eq_true rfl) dL_tryEndPrice_2 (htab.trans rfl) (fun z hz => nomatch hz) (by decide) (by decide) mw_683 (cast_self (M.2.2.2.2 _ mw_694)) (fun q H locs hw => ?_)
  refine lv_astore_n (lv' := [(2, .ref q), (0, .ref xo), (1, .int c1)]) hx hb dL_tryEndPrice_6 rfl hl (by decide) rfl (fun ls hl => ?_)
  refine lv_ldc (v := (-9999001)) hx hb M.2.2.2.1 (M.2.2.2.2 _ mw_711) dL_tryEndPrice_7 ?_
  exact hret _ _ _ (-9999001) _ _ 1 6 (by decide) (by decide) dL_tryEndPrice_9 hw rfl ⟨rfl, rfl⟩
set_option maxHeartbeats 1000000 in
theorem lk_tryKeep (l : Launch) (G : va_G) (Y : Nat → Nat) (xo : Nat) (c1 : Int32) {fs : List Value} {segs segsC : List va_W} (is : List Nat) {post : Int32 → List va_W → Prop} {fr lo : Nat} (hC : CtI l yX5_save cX5_save 2 .int fr lo [.ref xo, .int c1] segsC post G Y) (hs0 : segs[0]? = some [(xo, .inr (4, fs))]) (hs : is.map (fun i => segs[i]?) = segsC.map some) (hnd : va_nd is = true) {post2 : Int32 → List va_W → Prop} (hpp : ∀ r sg1, post r sg1 → post2 r (xPut segs is sg1)) : CtL l yL_tryKeep cL_tryKeep 3 [(0, 5, 6, 13)] (fr + 1) (8 + (2 + 11) + lo) [.ref xo, .int c1] segs post2 G Y := by
  refine x_ofL (by decide) (Nat.le_of_ble_eq_true rfl) (fun p e s m args below meth c A ls Q M hK hZ hN hw hl htab hret => ?_)
  obtain ⟨hx, hb, -⟩ := id M
  have hl : lv_has ls 3 [(0, .ref xo), (1, .int c1)] := hl
  refine lv_aload_n hx hb dL_tryKeep_0 rfl (lv_at hl 0 rfl) ?_
  refine lv_iload_n hx hb dL_tryKeep_1 rfl (lv_at hl 1 rfl) ?_
  refine x_cVI2 (As := [.int c1]) hC cw_L_103 is 0 0 M hK hZ hw hl.1 hs hnd hs0 rfl rfl ⟨Nat.le_refl _, Nat.le_refl _⟩ ⟨Nat.zero_le _, Nat.zero_le _⟩ rfl rfl (Nat.le_of_ble_eq_true rfl) dL_tryKeep_2 (fun r sg hp ha H locs hw => ?_)
  exact hret _ _ _ r _ _ 0 0 (by decide) (by decide) dL_tryKeep_5 hw (xPut_ads hs hnd ha) (hpp r sg hp)
set_option maxHeartbeats 1000000 in
theorem lt_tryKeep_eIOB (l : Launch) (G : va_G) (Y : Nat → Nat) (xo : Nat) (c1 : Int32) {fs : List Value} {segs segsC : List va_W} (is : List Nat) {fr lo : Nat} (hC : CtT l yX5_save cX5_save 2 (some .int) fr lo [.ref xo, .int c1] segsC eIOB G Y) (hs0 : segs[0]? = some [(xo, .inr (4, fs))]) (hs : is.map (fun i => segs[i]?) = segsC.map some) (hnd : va_nd is = true) : CtL l yL_tryKeep cL_tryKeep 3 [(0, 5, 6, 13)] (fr + 1) (8 + (2 + 11) + lo) [.ref xo, .int c1] segs (fun k sg => k = (-9999001) ∧ sg = segs) G Y := by
  refine x_ofL (by decide) (Nat.le_of_ble_eq_true rfl) (fun p e s m args below meth c A ls Q M hK hZ hN hw hl htab hret => ?_)
  obtain ⟨hx, hb, -⟩ := id M
  have hl : lv_has ls 3 [(0, .ref xo), (1, .int c1)] := hl
  refine lv_aload_n hx hb dL_tryKeep_0 rfl (lv_at hl 0 rfl) ?_
  refine lv_iload_n hx hb dL_tryKeep_1 rfl (lv_at hl 1 rfl) ?_
  refine x_catchV (As := [.int c1]) (ri := 0) (rj := 0) (pre := []) (xh := { startPc := 0, endPc := 5, handlerPc := 6, catchType := 13 }) (suf := []) hC cw_L_103 is M hK hZ hw hl.1 hs hnd hs0 rfl rfl ⟨Nat.le_refl _, Nat.le_refl _⟩ ⟨Nat.le_refl _, Nat.le_refl _⟩ rfl rfl (Nat.le_of_ble_eq_true rfl) dL_tryKeep_2 (htab.trans rfl) (fun z hz => nomatch hz) (by decide) (by decide) mw_683 (cast_self (M.2.2.2.2 _ mw_694)) (fun q H locs hw => ?_)
  refine lv_astore_n (lv' := [(2, .ref q), (0, .ref xo), (1, .int c1)]) hx hb dL_tryKeep_6 rfl hl (by decide) rfl (fun ls hl => ?_)
  refine lv_ldc (v := (-9999001)) hx hb M.2.2.2.1 (M.2.2.2.2 _ mw_711) dL_tryKeep_7 ?_
  exact hret _ _ _ (-9999001) _ _ 1 6 (by decide) (by decide) dL_tryKeep_9 hw rfl ⟨rfl, rfl⟩
set_option maxHeartbeats 1000000 in
theorem lk_tryBack (l : Launch) (G : va_G) (Y : Nat → Nat) (xo : Nat) (c1 : Int32) {fs : List Value} {segs segsC : List va_W} (is : List Nat) {post : Int32 → List va_W → Prop} {fr lo : Nat} (hC : CtI l yX5_restore cX5_restore 2 .int fr lo [.ref xo, .int c1] segsC post G Y) (hs0 : segs[0]? = some [(xo, .inr (4, fs))]) (hs : is.map (fun i => segs[i]?) = segsC.map some) (hnd : va_nd is = true) {post2 : Int32 → List va_W → Prop} (hpp : ∀ r sg1, post r sg1 → post2 r (xPut segs is sg1)) : CtL l yL_tryBack cL_tryBack 3 [(0, 5, 6, 13), (0, 5, 10, 19)] (fr + 1) (8 + (2 + 11) + lo) [.ref xo, .int c1] segs post2 G Y := by
  refine x_ofL (by decide) (Nat.le_of_ble_eq_true rfl) (fun p e s m args below meth c A ls Q M hK hZ hN hw hl htab hret => ?_)
  obtain ⟨hx, hb, -⟩ := id M
  have hl : lv_has ls 3 [(0, .ref xo), (1, .int c1)] := hl
  refine lv_aload_n hx hb dL_tryBack_0 rfl (lv_at hl 0 rfl) ?_
  refine lv_iload_n hx hb dL_tryBack_1 rfl (lv_at hl 1 rfl) ?_
  refine x_cVI2 (As := [.int c1]) hC cw_L_106 is 0 0 M hK hZ hw hl.1 hs hnd hs0 rfl rfl ⟨Nat.le_refl _, Nat.le_refl _⟩ ⟨Nat.zero_le _, Nat.zero_le _⟩ rfl rfl (Nat.le_of_ble_eq_true rfl) dL_tryBack_2 (fun r sg hp ha H locs hw => ?_)
  exact hret _ _ _ r _ _ 0 0 (by decide) (by decide) dL_tryBack_5 hw (xPut_ads hs hnd ha) (hpp r sg hp)
set_option maxHeartbeats 1000000 in
theorem lt_tryBack_eIOB (l : Launch) (G : va_G) (Y : Nat → Nat) (xo : Nat) (c1 : Int32) {fs : List Value} {segs segsC : List va_W} (is : List Nat) {fr lo : Nat} (hC : CtT l yX5_restore cX5_restore 2 (some .int) fr lo [.ref xo, .int c1] segsC eIOB G Y) (hs0 : segs[0]? = some [(xo, .inr (4, fs))]) (hs : is.map (fun i => segs[i]?) = segsC.map some) (hnd : va_nd is = true) : CtL l yL_tryBack cL_tryBack 3 [(0, 5, 6, 13), (0, 5, 10, 19)] (fr + 1) (8 + (2 + 11) + lo) [.ref xo, .int c1] segs (fun k sg => k = (-9999001) ∧ sg = segs) G Y := by
  refine x_ofL (by decide) (Nat.le_of_ble_eq_true rfl) (fun p e s m args below meth c A ls Q M hK hZ hN hw hl htab hret => ?_)
  obtain ⟨hx, hb, -⟩ := id M
  have hl : lv_has ls 3 [(0, .ref xo), (1, .int c1)] := hl
  refine lv_aload_n hx hb dL_tryBack_0 rfl (lv_at hl 0 rfl) ?_
  refine lv_iload_n hx hb dL_tryBack_1 rfl (lv_at hl 1 rfl) ?_
  refine x_catchV (As := [.int c1]) (ri := 0) (rj := 0) (pre := []) (xh := { startPc := 0, endPc := 5, handlerPc := 6, catchType := 13 }) (suf := [{ startPc := 0, endPc := 5, handlerPc := 10, catchType := 19 }]) hC cw_L_106 is M hK hZ hw hl.1 hs hnd hs0 rfl rfl ⟨Nat.le_refl _, Nat.le_refl _⟩ ⟨Nat.le_refl _, Nat.le_refl _⟩ rfl rfl (Nat.le_of_ble_eq_true rfl) dL_tryBack_2 (htab.trans rfl) (fun z hz => nomatch hz) (by decide) (by decide) mw_683 (cast_self (M.2.2.2.2 _ mw_694)) (fun q H locs hw => ?_)
  refine lv_astore_n (lv' := [(2, .ref q), (0, .ref xo), (1, .int c1)]) hx hb dL_tryBack_6 rfl hl (by decide) rfl (fun ls hl => ?_)
  refine lv_ldc (v := (-9999001)) hx hb M.2.2.2.1 (M.2.2.2.2 _ mw_711) dL_tryBack_7 ?_
  exact hret _ _ _ (-9999001) _ _ 1 6 (by decide) (by decide) dL_tryBack_9 hw rfl ⟨rfl, rfl⟩
set_option maxHeartbeats 1000000 in
theorem lt_tryBack_eISE (l : Launch) (G : va_G) (Y : Nat → Nat) (xo : Nat) (c1 : Int32) {fs : List Value} {segs segsC : List va_W} (is : List Nat) {fr lo : Nat} (hC : CtT l yX5_restore cX5_restore 2 (some .int) fr lo [.ref xo, .int c1] segsC eISE G Y) (hs0 : segs[0]? = some [(xo, .inr (4, fs))]) (hs : is.map (fun i => segs[i]?) = segsC.map some) (hnd : va_nd is = true) : CtL l yL_tryBack cL_tryBack 3 [(0, 5, 6, 13), (0, 5, 10, 19)] (fr + 1) (8 + (2 + 11) + lo) [.ref xo, .int c1] segs (fun k sg => k = (-9999003) ∧ sg = segs) G Y := by
  refine x_ofL (by decide) (Nat.le_of_ble_eq_true rfl) (fun p e s m args below meth c A ls Q M hK hZ hN hw hl htab hret => ?_)
  obtain ⟨hx, hb, -⟩ := id M
  have hl : lv_has ls 3 [(0, .ref xo), (1, .int c1)] := hl
  refine lv_aload_n hx hb dL_tryBack_0 rfl (lv_at hl 0 rfl) ?_
  refine lv_iload_n hx hb dL_tryBack_1 rfl (lv_at hl 1 rfl) ?_
  refine x_catchV (As := [.int c1]) (ri := 0) (rj := 0) (pre := [{ startPc := 0, endPc := 5, handlerPc := 6, catchType := 13 }]) (xh := { startPc := 0, endPc := 5, handlerPc := 10, catchType := 19 }) (suf := []) hC cw_L_106 is M hK hZ hw hl.1 hs hnd hs0 rfl rfl ⟨Nat.le_refl _, Nat.le_refl _⟩ ⟨Nat.le_refl _, Nat.le_refl _⟩ rfl rfl (Nat.le_of_ble_eq_true rfl) dL_tryBack_2 (htab.trans rfl) (fun z hz => by obtain rfl := List.mem_singleton.mp hz; exact Or.inr ⟨by decide, _, mw_683, hN.2.1⟩) (by decide) (by decide) mw_453 (cast_self (M.2.2.2.2 _ mw_464)) (fun q H locs hw => ?_)
  refine lv_astore_n (lv' := [(2, .ref q), (0, .ref xo), (1, .int c1)]) hx hb dL_tryBack_10 rfl hl (by decide) rfl (fun ls hl => ?_)
  refine lv_ldc (v := (-9999003)) hx hb M.2.2.2.1 (M.2.2.2.2 _ mw_483) dL_tryBack_11 ?_
  exact hret _ _ _ (-9999003) _ _ 1 6 (by decide) (by decide) dL_tryBack_13 hw rfl ⟨rfl, rfl⟩
theorem cl_tryAdd : GoodIn wB (va_wsS RL 197 yL_tryAdd (.codeWith yL_tryAdd cL_tryAdd 7 (some .int) [(0, 11, 12, 13), (0, 11, 17, 16), (0, 11, 22, 19)] :: wB)) ∧ yL_tryAdd.cls ≠ "java/lang/invoke/MethodHandle" ∧ yL_tryAdd.cls ≠ "java/lang/invoke/VarHandle" ∧ (parseMethodDescriptor yL_tryAdd.desc).map (fun d => d.parameters.length) = some 6 := xcL_of mw_971 mw_972 mw_0 mw_973 (by decide) (by decide +kernel)
theorem cl_tryScript : GoodIn wB (va_wsS RL 202 yL_tryScript (.codeWith yL_tryScript cL_tryScript 5 (some .int) [(0, 6, 7, 16)] :: wB)) ∧ yL_tryScript.cls ≠ "java/lang/invoke/MethodHandle" ∧ yL_tryScript.cls ≠ "java/lang/invoke/VarHandle" ∧ (parseMethodDescriptor yL_tryScript.desc).map (fun d => d.parameters.length) = some 3 := xcL_of mw_178 mw_179 mw_0 mw_180 (by decide) (by decide +kernel)
theorem cl_trySimulate : GoodIn wB (va_wsS RL 210 yL_trySimulate (.codeWith yL_trySimulate cL_trySimulate 5 (some .int) [(0, 6, 7, 16)] :: wB)) ∧ yL_trySimulate.cls ≠ "java/lang/invoke/MethodHandle" ∧ yL_trySimulate.cls ≠ "java/lang/invoke/VarHandle" ∧ (parseMethodDescriptor yL_trySimulate.desc).map (fun d => d.parameters.length) = some 3 := xcL_of mw_388 mw_389 mw_0 mw_390 (by decide) (by decide +kernel)
theorem cl_tryAppend : GoodIn wB (va_wsS RL 109 yL_tryAppend (.codeWith yL_tryAppend cL_tryAppend 3 (some .int) [(0, 5, 6, 16), (0, 5, 10, 19)] :: wB)) ∧ yL_tryAppend.cls ≠ "java/lang/invoke/MethodHandle" ∧ yL_tryAppend.cls ≠ "java/lang/invoke/VarHandle" ∧ (parseMethodDescriptor yL_tryAppend.desc).map (fun d => d.parameters.length) = some 2 := xcL_of mw_450 mw_451 mw_0 mw_452 (by decide) (by decide +kernel)
theorem cl_tryLoad : GoodIn wB (va_wsS RL 115 yL_tryLoad (.codeWith yL_tryLoad cL_tryLoad 2 (some .int) [(0, 4, 5, 19)] :: wB)) ∧ yL_tryLoad.cls ≠ "java/lang/invoke/MethodHandle" ∧ yL_tryLoad.cls ≠ "java/lang/invoke/VarHandle" ∧ (parseMethodDescriptor yL_tryLoad.desc).map (fun d => d.parameters.length) = some 1 := xcL_of mw_484 mw_485 mw_0 mw_486 (by decide) (by decide +kernel)
theorem cl_tryAbout : GoodIn wB (va_wsS RL 119 yL_tryAbout (.codeWith yL_tryAbout cL_tryAbout 3 (some .int) [(0, 5, 6, 16)] :: wB)) ∧ yL_tryAbout.cls ≠ "java/lang/invoke/MethodHandle" ∧ yL_tryAbout.cls ≠ "java/lang/invoke/VarHandle" ∧ (parseMethodDescriptor yL_tryAbout.desc).map (fun d => d.parameters.length) = some 2 := xcL_of mw_660 mw_661 mw_0 mw_662 (by decide) (by decide +kernel)
theorem cl_tryKind : GoodIn wB (va_wsS RL 122 yL_tryKind (.codeWith yL_tryKind cL_tryKind 4 (some .int) [(0, 6, 7, 13), (0, 6, 11, 16)] :: wB)) ∧ yL_tryKind.cls ≠ "java/lang/invoke/MethodHandle" ∧ yL_tryKind.cls ≠ "java/lang/invoke/VarHandle" ∧ (parseMethodDescriptor yL_tryKind.desc).map (fun d => d.parameters.length) = some 3 := xcL_of mw_680 mw_681 mw_0 mw_682 (by decide) (by decide +kernel)
theorem cl_tryBidder : GoodIn wB (va_wsS RL 126 yL_tryBidder (.codeWith yL_tryBidder cL_tryBidder 4 (some .int) [(0, 6, 7, 13), (0, 6, 11, 16)] :: wB)) ∧ yL_tryBidder.cls ≠ "java/lang/invoke/MethodHandle" ∧ yL_tryBidder.cls ≠ "java/lang/invoke/VarHandle" ∧ (parseMethodDescriptor yL_tryBidder.desc).map (fun d => d.parameters.length) = some 3 := xcL_of mw_712 mw_713 mw_0 mw_714 (by decide) (by decide +kernel)
theorem cl_tryDemand : GoodIn wB (va_wsS RL 129 yL_tryDemand (.codeWith yL_tryDemand cL_tryDemand 4 (some .int) [(0, 6, 7, 13)] :: wB)) ∧ yL_tryDemand.cls ≠ "java/lang/invoke/MethodHandle" ∧ yL_tryDemand.cls ≠ "java/lang/invoke/VarHandle" ∧ (parseMethodDescriptor yL_tryDemand.desc).map (fun d => d.parameters.length) = some 3 := xcL_of mw_731 mw_732 mw_0 mw_733 (by decide) (by decide +kernel)
theorem cl_tryPack : GoodIn wB (va_wsS RL 132 yL_tryPack (.codeWith yL_tryPack cL_tryPack 5 (some .int) [(0, 7, 8, 13), (0, 7, 13, 16)] :: wB)) ∧ yL_tryPack.cls ≠ "java/lang/invoke/MethodHandle" ∧ yL_tryPack.cls ≠ "java/lang/invoke/VarHandle" ∧ (parseMethodDescriptor yL_tryPack.desc).map (fun d => d.parameters.length) = some 4 := xcL_of mw_739 mw_740 mw_0 mw_741 (by decide) (by decide +kernel)
theorem cl_trySetting : GoodIn wB (va_wsS RL 136 yL_trySetting (.codeWith yL_trySetting cL_trySetting 3 (some .int) [(0, 5, 6, 16)] :: wB)) ∧ yL_trySetting.cls ≠ "java/lang/invoke/MethodHandle" ∧ yL_trySetting.cls ≠ "java/lang/invoke/VarHandle" ∧ (parseMethodDescriptor yL_trySetting.desc).map (fun d => d.parameters.length) = some 2 := xcL_of mw_755 mw_756 mw_0 mw_757 (by decide) (by decide +kernel)
theorem cl_tryOffer : GoodIn wB (va_wsS RL 139 yL_tryOffer (.codeWith yL_tryOffer cL_tryOffer 5 (some .int) [(0, 7, 8, 13), (0, 7, 13, 16), (0, 7, 18, 19)] :: wB)) ∧ yL_tryOffer.cls ≠ "java/lang/invoke/MethodHandle" ∧ yL_tryOffer.cls ≠ "java/lang/invoke/VarHandle" ∧ (parseMethodDescriptor yL_tryOffer.desc).map (fun d => d.parameters.length) = some 4 := xcL_of mw_767 mw_768 mw_0 mw_769 (by decide) (by decide +kernel)
theorem cl_tryPrice : GoodIn wB (va_wsS RL 142 yL_tryPrice (.codeWith yL_tryPrice cL_tryPrice 4 (some .int) [(0, 6, 7, 13), (0, 6, 11, 16), (0, 6, 15, 19)] :: wB)) ∧ yL_tryPrice.cls ≠ "java/lang/invoke/MethodHandle" ∧ yL_tryPrice.cls ≠ "java/lang/invoke/VarHandle" ∧ (parseMethodDescriptor yL_tryPrice.desc).map (fun d => d.parameters.length) = some 3 := xcL_of mw_788 mw_789 mw_0 mw_790 (by decide) (by decide +kernel)
theorem cl_tryJoin : GoodIn wB (va_wsS RL 145 yL_tryJoin (.codeWith yL_tryJoin cL_tryJoin 4 (some .int) [(0, 6, 7, 16), (0, 6, 11, 19)] :: wB)) ∧ yL_tryJoin.cls ≠ "java/lang/invoke/MethodHandle" ∧ yL_tryJoin.cls ≠ "java/lang/invoke/VarHandle" ∧ (parseMethodDescriptor yL_tryJoin.desc).map (fun d => d.parameters.length) = some 3 := xcL_of mw_799 mw_800 mw_0 mw_801 (by decide) (by decide +kernel)
theorem cl_tryValue : GoodIn wB (va_wsS RL 148 yL_tryValue (.codeWith yL_tryValue cL_tryValue 5 (some .int) [(0, 7, 8, 13), (0, 7, 13, 16)] :: wB)) ∧ yL_tryValue.cls ≠ "java/lang/invoke/MethodHandle" ∧ yL_tryValue.cls ≠ "java/lang/invoke/VarHandle" ∧ (parseMethodDescriptor yL_tryValue.desc).map (fun d => d.parameters.length) = some 4 := xcL_of mw_808 mw_809 mw_0 mw_810 (by decide) (by decide +kernel)
theorem cl_tryAsk : GoodIn wB (va_wsS RL 151 yL_tryAsk (.codeWith yL_tryAsk cL_tryAsk 5 (some .int) [(0, 7, 8, 13), (0, 7, 13, 16), (0, 7, 18, 19)] :: wB)) ∧ yL_tryAsk.cls ≠ "java/lang/invoke/MethodHandle" ∧ yL_tryAsk.cls ≠ "java/lang/invoke/VarHandle" ∧ (parseMethodDescriptor yL_tryAsk.desc).map (fun d => d.parameters.length) = some 4 := xcL_of mw_816 mw_817 mw_0 mw_818 (by decide) (by decide +kernel)
theorem cl_tryBid : GoodIn wB (va_wsS RL 154 yL_tryBid (.codeWith yL_tryBid cL_tryBid 3 (some .int) [(0, 5, 6, 13), (0, 5, 10, 19)] :: wB)) ∧ yL_tryBid.cls ≠ "java/lang/invoke/MethodHandle" ∧ yL_tryBid.cls ≠ "java/lang/invoke/VarHandle" ∧ (parseMethodDescriptor yL_tryBid.desc).map (fun d => d.parameters.length) = some 2 := xcL_of mw_824 mw_825 mw_0 mw_826 (by decide) (by decide +kernel)
theorem cl_tryClose : GoodIn wB (va_wsS RL 157 yL_tryClose (.codeWith yL_tryClose cL_tryClose 2 (some .int) [(0, 4, 5, 19)] :: wB)) ∧ yL_tryClose.cls ≠ "java/lang/invoke/MethodHandle" ∧ yL_tryClose.cls ≠ "java/lang/invoke/VarHandle" ∧ (parseMethodDescriptor yL_tryClose.desc).map (fun d => d.parameters.length) = some 1 := xcL_of mw_833 mw_834 mw_0 mw_835 (by decide) (by decide +kernel)
theorem cl_tryDrop : GoodIn wB (va_wsS RL 160 yL_tryDrop (.codeWith yL_tryDrop cL_tryDrop 4 (some .int) [(0, 6, 7, 13)] :: wB)) ∧ yL_tryDrop.cls ≠ "java/lang/invoke/MethodHandle" ∧ yL_tryDrop.cls ≠ "java/lang/invoke/VarHandle" ∧ (parseMethodDescriptor yL_tryDrop.desc).map (fun d => d.parameters.length) = some 3 := xcL_of mw_842 mw_843 mw_0 mw_844 (by decide) (by decide +kernel)
theorem cl_trySet : GoodIn wB (va_wsS RL 163 yL_trySet (.codeWith yL_trySet cL_trySet 4 (some .int) [(0, 6, 7, 16)] :: wB)) ∧ yL_trySet.cls ≠ "java/lang/invoke/MethodHandle" ∧ yL_trySet.cls ≠ "java/lang/invoke/VarHandle" ∧ (parseMethodDescriptor yL_trySet.desc).map (fun d => d.parameters.length) = some 3 := xcL_of mw_851 mw_852 mw_0 mw_853 (by decide) (by decide +kernel)
theorem cl_tryUndo : GoodIn wB (va_wsS RL 166 yL_tryUndo (.codeWith yL_tryUndo cL_tryUndo 2 (some .int) [(0, 4, 5, 19)] :: wB)) ∧ yL_tryUndo.cls ≠ "java/lang/invoke/MethodHandle" ∧ yL_tryUndo.cls ≠ "java/lang/invoke/VarHandle" ∧ (parseMethodDescriptor yL_tryUndo.desc).map (fun d => d.parameters.length) = some 1 := xcL_of mw_860 mw_861 mw_0 mw_862 (by decide) (by decide +kernel)
theorem cl_tryGets : GoodIn wB (va_wsS RL 169 yL_tryGets (.codeWith yL_tryGets cL_tryGets 3 (some .int) [(0, 5, 6, 13)] :: wB)) ∧ yL_tryGets.cls ≠ "java/lang/invoke/MethodHandle" ∧ yL_tryGets.cls ≠ "java/lang/invoke/VarHandle" ∧ (parseMethodDescriptor yL_tryGets.desc).map (fun d => d.parameters.length) = some 2 := xcL_of mw_880 mw_881 mw_0 mw_882 (by decide) (by decide +kernel)
theorem cl_tryPays : GoodIn wB (va_wsS RL 172 yL_tryPays (.codeWith yL_tryPays cL_tryPays 3 (some .int) [(0, 5, 6, 13)] :: wB)) ∧ yL_tryPays.cls ≠ "java/lang/invoke/MethodHandle" ∧ yL_tryPays.cls ≠ "java/lang/invoke/VarHandle" ∧ (parseMethodDescriptor yL_tryPays.desc).map (fun d => d.parameters.length) = some 2 := xcL_of mw_918 mw_919 mw_0 mw_920 (by decide) (by decide +kernel)
theorem cl_tryOneMore : GoodIn wB (va_wsS RL 175 yL_tryOneMore (.codeWith yL_tryOneMore cL_tryOneMore 3 (some .int) [(0, 5, 6, 13)] :: wB)) ∧ yL_tryOneMore.cls ≠ "java/lang/invoke/MethodHandle" ∧ yL_tryOneMore.cls ≠ "java/lang/invoke/VarHandle" ∧ (parseMethodDescriptor yL_tryOneMore.desc).map (fun d => d.parameters.length) = some 2 := xcL_of mw_925 mw_926 mw_0 mw_927 (by decide) (by decide +kernel)
theorem cl_tryWouldAsk : GoodIn wB (va_wsS RL 178 yL_tryWouldAsk (.codeWith yL_tryWouldAsk cL_tryWouldAsk 4 (some .int) [(0, 6, 7, 13)] :: wB)) ∧ yL_tryWouldAsk.cls ≠ "java/lang/invoke/MethodHandle" ∧ yL_tryWouldAsk.cls ≠ "java/lang/invoke/VarHandle" ∧ (parseMethodDescriptor yL_tryWouldAsk.desc).map (fun d => d.parameters.length) = some 3 := xcL_of mw_932 mw_933 mw_0 mw_934 (by decide) (by decide +kernel)
theorem cl_tryEndPrice : GoodIn wB (va_wsS RL 181 yL_tryEndPrice (.codeWith yL_tryEndPrice cL_tryEndPrice 3 (some .int) [(0, 5, 6, 13)] :: wB)) ∧ yL_tryEndPrice.cls ≠ "java/lang/invoke/MethodHandle" ∧ yL_tryEndPrice.cls ≠ "java/lang/invoke/VarHandle" ∧ (parseMethodDescriptor yL_tryEndPrice.desc).map (fun d => d.parameters.length) = some 2 := xcL_of mw_939 mw_940 mw_0 mw_941 (by decide) (by decide +kernel)
theorem cl_tryKeep : GoodIn wB (va_wsS RL 184 yL_tryKeep (.codeWith yL_tryKeep cL_tryKeep 3 (some .int) [(0, 5, 6, 13)] :: wB)) ∧ yL_tryKeep.cls ≠ "java/lang/invoke/MethodHandle" ∧ yL_tryKeep.cls ≠ "java/lang/invoke/VarHandle" ∧ (parseMethodDescriptor yL_tryKeep.desc).map (fun d => d.parameters.length) = some 2 := xcL_of mw_950 mw_951 mw_0 mw_952 (by decide) (by decide +kernel)
theorem cl_tryBack : GoodIn wB (va_wsS RL 187 yL_tryBack (.codeWith yL_tryBack cL_tryBack 3 (some .int) [(0, 5, 6, 13), (0, 5, 10, 19)] :: wB)) ∧ yL_tryBack.cls ≠ "java/lang/invoke/MethodHandle" ∧ yL_tryBack.cls ≠ "java/lang/invoke/VarHandle" ∧ (parseMethodDescriptor yL_tryBack.desc).map (fun d => d.parameters.length) = some 2 := xcL_of mw_962 mw_963 mw_0 mw_964 (by decide) (by decide +kernel)
set_option maxHeartbeats 1000000 in
theorem cd_tryAppend (l : Launch) (G : va_G) (Y : Nat → Nat) (xo : Nat) (a b d : Int32) {segsC : List va_W} {post : Int32 → List va_W → Prop} {fr lo : Nat} (hC : CtL l yL_tryAppend cL_tryAppend 3 [(0, 5, 6, 16), (0, 5, 10, 19)] fr lo [.ref xo, .int a] segsC post G Y) : CtG l yL_call cL_call 5 .int (fr + 1) (8 + (3 + 11) + lo) 1 6 [.ref xo, .int (nI 0), .int a, .int b, .int d] segsC post G Y := by
  refine x_ofG (by decide) (Nat.le_of_ble_eq_true rfl) (fun p e s m args below meth c A ls Q M hK hZ hN hw hl hret => ?_)
  obtain ⟨hx, hb, -⟩ := id M
  have hl : lv_has ls 5 [(0, .ref xo), (1, .int (nI 0)), (2, .int a), (3, .int b), (4, .int d)] := hl
  refine lv_iload_n hx hb dL_call_0 rfl (lv_at hl 1 rfl) ?_
  refine lv_tableIn (tgt := 112) hx hb dL_call_1 (by decide) (by decide) rfl (by decide) ?_
  refine lv_aload_n hx hb dL_call_112 rfl (lv_at hl 0 rfl) ?_
  refine lv_iload_n hx hb dL_call_113 rfl (lv_at hl 2 rfl) ?_
  refine x_cSL2 (As := [.ref xo, .int a]) hC cl_tryAppend (List.range segsC.length) M hK hZ hN hw hl.1 allI_get allI_nd ⟨Nat.le_refl _, Nat.le_refl _⟩ ⟨Nat.le_refl _, Nat.le_refl _⟩ rfl rfl (Nat.le_of_ble_eq_true rfl) dL_call_114 (fun r sg hp ha H locs hw => ?_)
  rw [xPut_all ha] at hw
  exact hret _ _ _ r _ _ 1 6 (by decide) (by decide) dL_call_117 hw rfl ha hp
set_option maxHeartbeats 1000000 in
theorem cd_tryLoad (l : Launch) (G : va_G) (Y : Nat → Nat) (xo : Nat) (a b d : Int32) {segsC : List va_W} {post : Int32 → List va_W → Prop} {fr lo : Nat} (hC : CtL l yL_tryLoad cL_tryLoad 2 [(0, 4, 5, 19)] fr lo [.ref xo] segsC post G Y) : CtG l yL_call cL_call 5 .int (fr + 1) (8 + (2 + 11) + lo) 1 6 [.ref xo, .int (nI 1), .int a, .int b, .int d] segsC post G Y := by
  refine x_ofG (by decide) (Nat.le_of_ble_eq_true rfl) (fun p e s m args below meth c A ls Q M hK hZ hN hw hl hret => ?_)
  obtain ⟨hx, hb, -⟩ := id M
  have hl : lv_has ls 5 [(0, .ref xo), (1, .int (nI 1)), (2, .int a), (3, .int b), (4, .int d)] := hl
  refine lv_iload_n hx hb dL_call_0 rfl (lv_at hl 1 rfl) ?_
  refine lv_tableIn (tgt := 118) hx hb dL_call_1 (by decide) (by decide) rfl (by decide) ?_
  refine lv_aload_n hx hb dL_call_118 rfl (lv_at hl 0 rfl) ?_
  refine x_cSL2 (As := [.ref xo]) hC cl_tryLoad (List.range segsC.length) M hK hZ hN hw hl.1 allI_get allI_nd ⟨Nat.le_refl _, Nat.le_refl _⟩ ⟨Nat.le_refl _, Nat.le_refl _⟩ rfl rfl (Nat.le_of_ble_eq_true rfl) dL_call_119 (fun r sg hp ha H locs hw => ?_)
  rw [xPut_all ha] at hw
  exact hret _ _ _ r _ _ 1 6 (by decide) (by decide) dL_call_122 hw rfl ha hp
set_option maxHeartbeats 1000000 in
theorem cd_tryAbout (l : Launch) (G : va_G) (Y : Nat → Nat) (xo : Nat) (a b d : Int32) {segsC : List va_W} {post : Int32 → List va_W → Prop} {fr lo : Nat} (hC : CtL l yL_tryAbout cL_tryAbout 3 [(0, 5, 6, 16)] fr lo [.ref xo, .int a] segsC post G Y) : CtG l yL_call cL_call 5 .int (fr + 1) (8 + (3 + 11) + lo) 1 6 [.ref xo, .int (nI 2), .int a, .int b, .int d] segsC post G Y := by
  refine x_ofG (by decide) (Nat.le_of_ble_eq_true rfl) (fun p e s m args below meth c A ls Q M hK hZ hN hw hl hret => ?_)
  obtain ⟨hx, hb, -⟩ := id M
  have hl : lv_has ls 5 [(0, .ref xo), (1, .int (nI 2)), (2, .int a), (3, .int b), (4, .int d)] := hl
  refine lv_iload_n hx hb dL_call_0 rfl (lv_at hl 1 rfl) ?_
  refine lv_tableIn (tgt := 123) hx hb dL_call_1 (by decide) (by decide) rfl (by decide) ?_
  refine lv_aload_n hx hb dL_call_123 rfl (lv_at hl 0 rfl) ?_
  refine lv_iload_n hx hb dL_call_124 rfl (lv_at hl 2 rfl) ?_
  refine x_cSL2 (As := [.ref xo, .int a]) hC cl_tryAbout (List.range segsC.length) M hK hZ hN hw hl.1 allI_get allI_nd ⟨Nat.le_refl _, Nat.le_refl _⟩ ⟨Nat.le_refl _, Nat.le_refl _⟩ rfl rfl (Nat.le_of_ble_eq_true rfl) dL_call_125 (fun r sg hp ha H locs hw => ?_)
  rw [xPut_all ha] at hw
  exact hret _ _ _ r _ _ 1 6 (by decide) (by decide) dL_call_128 hw rfl ha hp
set_option maxHeartbeats 1000000 in
theorem cd_tryKind (l : Launch) (G : va_G) (Y : Nat → Nat) (xo : Nat) (a b d : Int32) {segsC : List va_W} {post : Int32 → List va_W → Prop} {fr lo : Nat} (hC : CtL l yL_tryKind cL_tryKind 4 [(0, 6, 7, 13), (0, 6, 11, 16)] fr lo [.ref xo, .int a, .int b] segsC post G Y) : CtG l yL_call cL_call 5 .int (fr + 1) (8 + (4 + 11) + lo) 1 6 [.ref xo, .int (nI 3), .int a, .int b, .int d] segsC post G Y := by
  refine x_ofG (by decide) (Nat.le_of_ble_eq_true rfl) (fun p e s m args below meth c A ls Q M hK hZ hN hw hl hret => ?_)
  obtain ⟨hx, hb, -⟩ := id M
  have hl : lv_has ls 5 [(0, .ref xo), (1, .int (nI 3)), (2, .int a), (3, .int b), (4, .int d)] := hl
  refine lv_iload_n hx hb dL_call_0 rfl (lv_at hl 1 rfl) ?_
  refine lv_tableIn (tgt := 129) hx hb dL_call_1 (by decide) (by decide) rfl (by decide) ?_
  refine lv_aload_n hx hb dL_call_129 rfl (lv_at hl 0 rfl) ?_
  refine lv_iload_n hx hb dL_call_130 rfl (lv_at hl 2 rfl) ?_
  refine lv_iload_n hx hb dL_call_131 rfl (lv_at hl 3 rfl) ?_
  refine x_cSL2 (As := [.ref xo, .int a, .int b]) hC cl_tryKind (List.range segsC.length) M hK hZ hN hw hl.1 allI_get allI_nd ⟨Nat.le_refl _, Nat.le_refl _⟩ ⟨Nat.le_refl _, Nat.le_refl _⟩ rfl rfl (Nat.le_of_ble_eq_true rfl) dL_call_132 (fun r sg hp ha H locs hw => ?_)
  rw [xPut_all ha] at hw
  exact hret _ _ _ r _ _ 1 6 (by decide) (by decide) dL_call_135 hw rfl ha hp
set_option maxHeartbeats 1000000 in
theorem cd_tryBidder (l : Launch) (G : va_G) (Y : Nat → Nat) (xo : Nat) (a b d : Int32) {segsC : List va_W} {post : Int32 → List va_W → Prop} {fr lo : Nat} (hC : CtL l yL_tryBidder cL_tryBidder 4 [(0, 6, 7, 13), (0, 6, 11, 16)] fr lo [.ref xo, .int a, .int b] segsC post G Y) : CtG l yL_call cL_call 5 .int (fr + 1) (8 + (4 + 11) + lo) 1 6 [.ref xo, .int (nI 4), .int a, .int b, .int d] segsC post G Y := by
  refine x_ofG (by decide) (Nat.le_of_ble_eq_true rfl) (fun p e s m args below meth c A ls Q M hK hZ hN hw hl hret => ?_)
  obtain ⟨hx, hb, -⟩ := id M
  have hl : lv_has ls 5 [(0, .ref xo), (1, .int (nI 4)), (2, .int a), (3, .int b), (4, .int d)] := hl
  refine lv_iload_n hx hb dL_call_0 rfl (lv_at hl 1 rfl) ?_
  refine lv_tableIn (tgt := 136) hx hb dL_call_1 (by decide) (by decide) rfl (by decide) ?_
  refine lv_aload_n hx hb dL_call_136 rfl (lv_at hl 0 rfl) ?_
  refine lv_iload_n hx hb dL_call_137 rfl (lv_at hl 2 rfl) ?_
  refine lv_iload_n hx hb dL_call_138 rfl (lv_at hl 3 rfl) ?_
  refine x_cSL2 (As := [.ref xo, .int a, .int b]) hC cl_tryBidder (List.range segsC.length) M hK hZ hN hw hl.1 allI_get allI_nd ⟨Nat.le_refl _, Nat.le_refl _⟩ ⟨Nat.le_refl _, Nat.le_refl _⟩ rfl rfl (Nat.le_of_ble_eq_true rfl) dL_call_139 (fun r sg hp ha H locs hw => ?_)
  rw [xPut_all ha] at hw
  exact hret _ _ _ r _ _ 1 6 (by decide) (by decide) dL_call_142 hw rfl ha hp
set_option maxHeartbeats 1000000 in
theorem cd_tryDemand (l : Launch) (G : va_G) (Y : Nat → Nat) (xo : Nat) (a b d : Int32) {segsC : List va_W} {post : Int32 → List va_W → Prop} {fr lo : Nat} (hC : CtL l yL_tryDemand cL_tryDemand 4 [(0, 6, 7, 13)] fr lo [.ref xo, .int a, .int b] segsC post G Y) : CtG l yL_call cL_call 5 .int (fr + 1) (8 + (4 + 11) + lo) 1 6 [.ref xo, .int (nI 5), .int a, .int b, .int d] segsC post G Y := by
  refine x_ofG (by decide) (Nat.le_of_ble_eq_true rfl) (fun p e s m args below meth c A ls Q M hK hZ hN hw hl hret => ?_)
  obtain ⟨hx, hb, -⟩ := id M
  have hl : lv_has ls 5 [(0, .ref xo), (1, .int (nI 5)), (2, .int a), (3, .int b), (4, .int d)] := hl
  refine lv_iload_n hx hb dL_call_0 rfl (lv_at hl 1 rfl) ?_
  refine lv_tableIn (tgt := 143) hx hb dL_call_1 (by decide) (by decide) rfl (by decide) ?_
  refine lv_aload_n hx hb dL_call_143 rfl (lv_at hl 0 rfl) ?_
  refine lv_iload_n hx hb dL_call_144 rfl (lv_at hl 2 rfl) ?_
  refine lv_iload_n hx hb dL_call_145 rfl (lv_at hl 3 rfl) ?_
  refine x_cSL2 (As := [.ref xo, .int a, .int b]) hC cl_tryDemand (List.range segsC.length) M hK hZ hN hw hl.1 allI_get allI_nd ⟨Nat.le_refl _, Nat.le_refl _⟩ ⟨Nat.le_refl _, Nat.le_refl _⟩ rfl rfl (Nat.le_of_ble_eq_true rfl) dL_call_146 (fun r sg hp ha H locs hw => ?_)
  rw [xPut_all ha] at hw
  exact hret _ _ _ r _ _ 1 6 (by decide) (by decide) dL_call_149 hw rfl ha hp
set_option maxHeartbeats 1000000 in
theorem cd_tryPack (l : Launch) (G : va_G) (Y : Nat → Nat) (xo : Nat) (a b d : Int32) {segsC : List va_W} {post : Int32 → List va_W → Prop} {fr lo : Nat} (hC : CtL l yL_tryPack cL_tryPack 5 [(0, 7, 8, 13), (0, 7, 13, 16)] fr lo [.ref xo, .int a, .int b, .int d] segsC post G Y) : CtG l yL_call cL_call 5 .int (fr + 1) (8 + (5 + 11) + lo) 1 6 [.ref xo, .int (nI 6), .int a, .int b, .int d] segsC post G Y := by
  refine x_ofG (by decide) (Nat.le_of_ble_eq_true rfl) (fun p e s m args below meth c A ls Q M hK hZ hN hw hl hret => ?_)
  obtain ⟨hx, hb, -⟩ := id M
  have hl : lv_has ls 5 [(0, .ref xo), (1, .int (nI 6)), (2, .int a), (3, .int b), (4, .int d)] := hl
  refine lv_iload_n hx hb dL_call_0 rfl (lv_at hl 1 rfl) ?_
  refine lv_tableIn (tgt := 150) hx hb dL_call_1 (by decide) (by decide) rfl (by decide) ?_
  refine lv_aload_n hx hb dL_call_150 rfl (lv_at hl 0 rfl) ?_
  refine lv_iload_n hx hb dL_call_151 rfl (lv_at hl 2 rfl) ?_
  refine lv_iload_n hx hb dL_call_152 rfl (lv_at hl 3 rfl) ?_
  refine lv_iload hx hb dL_call_153 (lv_at hl 4 rfl) ?_
  refine x_cSL2 (As := [.ref xo, .int a, .int b, .int d]) hC cl_tryPack (List.range segsC.length) M hK hZ hN hw hl.1 allI_get allI_nd ⟨Nat.le_refl _, Nat.le_refl _⟩ ⟨Nat.le_refl _, Nat.le_refl _⟩ rfl rfl (Nat.le_of_ble_eq_true rfl) dL_call_155 (fun r sg hp ha H locs hw => ?_)
  rw [xPut_all ha] at hw
  exact hret _ _ _ r _ _ 1 6 (by decide) (by decide) dL_call_158 hw rfl ha hp
set_option maxHeartbeats 1000000 in
theorem cd_trySetting (l : Launch) (G : va_G) (Y : Nat → Nat) (xo : Nat) (a b d : Int32) {segsC : List va_W} {post : Int32 → List va_W → Prop} {fr lo : Nat} (hC : CtL l yL_trySetting cL_trySetting 3 [(0, 5, 6, 16)] fr lo [.ref xo, .int a] segsC post G Y) : CtG l yL_call cL_call 5 .int (fr + 1) (8 + (3 + 11) + lo) 1 6 [.ref xo, .int (nI 7), .int a, .int b, .int d] segsC post G Y := by
  refine x_ofG (by decide) (Nat.le_of_ble_eq_true rfl) (fun p e s m args below meth c A ls Q M hK hZ hN hw hl hret => ?_)
  obtain ⟨hx, hb, -⟩ := id M
  have hl : lv_has ls 5 [(0, .ref xo), (1, .int (nI 7)), (2, .int a), (3, .int b), (4, .int d)] := hl
  refine lv_iload_n hx hb dL_call_0 rfl (lv_at hl 1 rfl) ?_
  refine lv_tableIn (tgt := 159) hx hb dL_call_1 (by decide) (by decide) rfl (by decide) ?_
  refine lv_aload_n hx hb dL_call_159 rfl (lv_at hl 0 rfl) ?_
  refine lv_iload_n hx hb dL_call_160 rfl (lv_at hl 2 rfl) ?_
  refine x_cSL2 (As := [.ref xo, .int a]) hC cl_trySetting (List.range segsC.length) M hK hZ hN hw hl.1 allI_get allI_nd ⟨Nat.le_refl _, Nat.le_refl _⟩ ⟨Nat.le_refl _, Nat.le_refl _⟩ rfl rfl (Nat.le_of_ble_eq_true rfl) dL_call_161 (fun r sg hp ha H locs hw => ?_)
  rw [xPut_all ha] at hw
  exact hret _ _ _ r _ _ 1 6 (by decide) (by decide) dL_call_164 hw rfl ha hp
set_option maxHeartbeats 1000000 in
theorem cd_tryOffer (l : Launch) (G : va_G) (Y : Nat → Nat) (xo : Nat) (a b d : Int32) {segsC : List va_W} {post : Int32 → List va_W → Prop} {fr lo : Nat} (hC : CtL l yL_tryOffer cL_tryOffer 5 [(0, 7, 8, 13), (0, 7, 13, 16), (0, 7, 18, 19)] fr lo [.ref xo, .int a, .int b, .int d] segsC post G Y) : CtG l yL_call cL_call 5 .int (fr + 1) (8 + (5 + 11) + lo) 1 6 [.ref xo, .int (nI 8), .int a, .int b, .int d] segsC post G Y := by
  refine x_ofG (by decide) (Nat.le_of_ble_eq_true rfl) (fun p e s m args below meth c A ls Q M hK hZ hN hw hl hret => ?_)
  obtain ⟨hx, hb, -⟩ := id M
  have hl : lv_has ls 5 [(0, .ref xo), (1, .int (nI 8)), (2, .int a), (3, .int b), (4, .int d)] := hl
  refine lv_iload_n hx hb dL_call_0 rfl (lv_at hl 1 rfl) ?_
  refine lv_tableIn (tgt := 165) hx hb dL_call_1 (by decide) (by decide) rfl (by decide) ?_
  refine lv_aload_n hx hb dL_call_165 rfl (lv_at hl 0 rfl) ?_
  refine lv_iload_n hx hb dL_call_166 rfl (lv_at hl 2 rfl) ?_
  refine lv_iload_n hx hb dL_call_167 rfl (lv_at hl 3 rfl) ?_
  refine lv_iload hx hb dL_call_168 (lv_at hl 4 rfl) ?_
  refine x_cSL2 (As := [.ref xo, .int a, .int b, .int d]) hC cl_tryOffer (List.range segsC.length) M hK hZ hN hw hl.1 allI_get allI_nd ⟨Nat.le_refl _, Nat.le_refl _⟩ ⟨Nat.le_refl _, Nat.le_refl _⟩ rfl rfl (Nat.le_of_ble_eq_true rfl) dL_call_170 (fun r sg hp ha H locs hw => ?_)
  rw [xPut_all ha] at hw
  exact hret _ _ _ r _ _ 1 6 (by decide) (by decide) dL_call_173 hw rfl ha hp
set_option maxHeartbeats 1000000 in
theorem cd_tryPrice (l : Launch) (G : va_G) (Y : Nat → Nat) (xo : Nat) (a b d : Int32) {segsC : List va_W} {post : Int32 → List va_W → Prop} {fr lo : Nat} (hC : CtL l yL_tryPrice cL_tryPrice 4 [(0, 6, 7, 13), (0, 6, 11, 16), (0, 6, 15, 19)] fr lo [.ref xo, .int a, .int b] segsC post G Y) : CtG l yL_call cL_call 5 .int (fr + 1) (8 + (4 + 11) + lo) 1 6 [.ref xo, .int (nI 9), .int a, .int b, .int d] segsC post G Y := by
  refine x_ofG (by decide) (Nat.le_of_ble_eq_true rfl) (fun p e s m args below meth c A ls Q M hK hZ hN hw hl hret => ?_)
  obtain ⟨hx, hb, -⟩ := id M
  have hl : lv_has ls 5 [(0, .ref xo), (1, .int (nI 9)), (2, .int a), (3, .int b), (4, .int d)] := hl
  refine lv_iload_n hx hb dL_call_0 rfl (lv_at hl 1 rfl) ?_
  refine lv_tableIn (tgt := 174) hx hb dL_call_1 (by decide) (by decide) rfl (by decide) ?_
  refine lv_aload_n hx hb dL_call_174 rfl (lv_at hl 0 rfl) ?_
  refine lv_iload_n hx hb dL_call_175 rfl (lv_at hl 2 rfl) ?_
  refine lv_iload_n hx hb dL_call_176 rfl (lv_at hl 3 rfl) ?_
  refine x_cSL2 (As := [.ref xo, .int a, .int b]) hC cl_tryPrice (List.range segsC.length) M hK hZ hN hw hl.1 allI_get allI_nd ⟨Nat.le_refl _, Nat.le_refl _⟩ ⟨Nat.le_refl _, Nat.le_refl _⟩ rfl rfl (Nat.le_of_ble_eq_true rfl) dL_call_177 (fun r sg hp ha H locs hw => ?_)
  rw [xPut_all ha] at hw
  exact hret _ _ _ r _ _ 1 6 (by decide) (by decide) dL_call_180 hw rfl ha hp
set_option maxHeartbeats 1000000 in
theorem cd_tryJoin (l : Launch) (G : va_G) (Y : Nat → Nat) (xo : Nat) (a b d : Int32) {segsC : List va_W} {post : Int32 → List va_W → Prop} {fr lo : Nat} (hC : CtL l yL_tryJoin cL_tryJoin 4 [(0, 6, 7, 16), (0, 6, 11, 19)] fr lo [.ref xo, .int a, .int b] segsC post G Y) : CtG l yL_call cL_call 5 .int (fr + 1) (8 + (4 + 11) + lo) 1 6 [.ref xo, .int (nI 10), .int a, .int b, .int d] segsC post G Y := by
  refine x_ofG (by decide) (Nat.le_of_ble_eq_true rfl) (fun p e s m args below meth c A ls Q M hK hZ hN hw hl hret => ?_)
  obtain ⟨hx, hb, -⟩ := id M
  have hl : lv_has ls 5 [(0, .ref xo), (1, .int (nI 10)), (2, .int a), (3, .int b), (4, .int d)] := hl
  refine lv_iload_n hx hb dL_call_0 rfl (lv_at hl 1 rfl) ?_
  refine lv_tableIn (tgt := 181) hx hb dL_call_1 (by decide) (by decide) rfl (by decide) ?_
  refine lv_aload_n hx hb dL_call_181 rfl (lv_at hl 0 rfl) ?_
  refine lv_iload_n hx hb dL_call_182 rfl (lv_at hl 2 rfl) ?_
  refine lv_iload_n hx hb dL_call_183 rfl (lv_at hl 3 rfl) ?_
  refine x_cSL2 (As := [.ref xo, .int a, .int b]) hC cl_tryJoin (List.range segsC.length) M hK hZ hN hw hl.1 allI_get allI_nd ⟨Nat.le_refl _, Nat.le_refl _⟩ ⟨Nat.le_refl _, Nat.le_refl _⟩ rfl rfl (Nat.le_of_ble_eq_true rfl) dL_call_184 (fun r sg hp ha H locs hw => ?_)
  rw [xPut_all ha] at hw
  exact hret _ _ _ r _ _ 1 6 (by decide) (by decide) dL_call_187 hw rfl ha hp
set_option maxHeartbeats 1000000 in
theorem cd_tryValue (l : Launch) (G : va_G) (Y : Nat → Nat) (xo : Nat) (a b d : Int32) {segsC : List va_W} {post : Int32 → List va_W → Prop} {fr lo : Nat} (hC : CtL l yL_tryValue cL_tryValue 5 [(0, 7, 8, 13), (0, 7, 13, 16)] fr lo [.ref xo, .int a, .int b, .int d] segsC post G Y) : CtG l yL_call cL_call 5 .int (fr + 1) (8 + (5 + 11) + lo) 1 6 [.ref xo, .int (nI 11), .int a, .int b, .int d] segsC post G Y := by
  refine x_ofG (by decide) (Nat.le_of_ble_eq_true rfl) (fun p e s m args below meth c A ls Q M hK hZ hN hw hl hret => ?_)
  obtain ⟨hx, hb, -⟩ := id M
  have hl : lv_has ls 5 [(0, .ref xo), (1, .int (nI 11)), (2, .int a), (3, .int b), (4, .int d)] := hl
  refine lv_iload_n hx hb dL_call_0 rfl (lv_at hl 1 rfl) ?_
  refine lv_tableIn (tgt := 188) hx hb dL_call_1 (by decide) (by decide) rfl (by decide) ?_
  refine lv_aload_n hx hb dL_call_188 rfl (lv_at hl 0 rfl) ?_
  refine lv_iload_n hx hb dL_call_189 rfl (lv_at hl 2 rfl) ?_
  refine lv_iload_n hx hb dL_call_190 rfl (lv_at hl 3 rfl) ?_
  refine lv_iload hx hb dL_call_191 (lv_at hl 4 rfl) ?_
  refine x_cSL2 (As := [.ref xo, .int a, .int b, .int d]) hC cl_tryValue (List.range segsC.length) M hK hZ hN hw hl.1 allI_get allI_nd ⟨Nat.le_refl _, Nat.le_refl _⟩ ⟨Nat.le_refl _, Nat.le_refl _⟩ rfl rfl (Nat.le_of_ble_eq_true rfl) dL_call_193 (fun r sg hp ha H locs hw => ?_)
  rw [xPut_all ha] at hw
  exact hret _ _ _ r _ _ 1 6 (by decide) (by decide) dL_call_196 hw rfl ha hp
set_option maxHeartbeats 1000000 in
theorem cd_tryAsk (l : Launch) (G : va_G) (Y : Nat → Nat) (xo : Nat) (a b d : Int32) {segsC : List va_W} {post : Int32 → List va_W → Prop} {fr lo : Nat} (hC : CtL l yL_tryAsk cL_tryAsk 5 [(0, 7, 8, 13), (0, 7, 13, 16), (0, 7, 18, 19)] fr lo [.ref xo, .int a, .int b, .int d] segsC post G Y) : CtG l yL_call cL_call 5 .int (fr + 1) (8 + (5 + 11) + lo) 1 6 [.ref xo, .int (nI 12), .int a, .int b, .int d] segsC post G Y := by
  refine x_ofG (by decide) (Nat.le_of_ble_eq_true rfl) (fun p e s m args below meth c A ls Q M hK hZ hN hw hl hret => ?_)
  obtain ⟨hx, hb, -⟩ := id M
  have hl : lv_has ls 5 [(0, .ref xo), (1, .int (nI 12)), (2, .int a), (3, .int b), (4, .int d)] := hl
  refine lv_iload_n hx hb dL_call_0 rfl (lv_at hl 1 rfl) ?_
  refine lv_tableIn (tgt := 197) hx hb dL_call_1 (by decide) (by decide) rfl (by decide) ?_
  refine lv_aload_n hx hb dL_call_197 rfl (lv_at hl 0 rfl) ?_
  refine lv_iload_n hx hb dL_call_198 rfl (lv_at hl 2 rfl) ?_
  refine lv_iload_n hx hb dL_call_199 rfl (lv_at hl 3 rfl) ?_
  refine lv_iload hx hb dL_call_200 (lv_at hl 4 rfl) ?_
  refine x_cSL2 (As := [.ref xo, .int a, .int b, .int d]) hC cl_tryAsk (List.range segsC.length) M hK hZ hN hw hl.1 allI_get allI_nd ⟨Nat.le_refl _, Nat.le_refl _⟩ ⟨Nat.le_refl _, Nat.le_refl _⟩ rfl rfl (Nat.le_of_ble_eq_true rfl) dL_call_202 (fun r sg hp ha H locs hw => ?_)
  rw [xPut_all ha] at hw
  exact hret _ _ _ r _ _ 1 6 (by decide) (by decide) dL_call_205 hw rfl ha hp
set_option maxHeartbeats 1000000 in
theorem cd_tryBid (l : Launch) (G : va_G) (Y : Nat → Nat) (xo : Nat) (a b d : Int32) {segsC : List va_W} {post : Int32 → List va_W → Prop} {fr lo : Nat} (hC : CtL l yL_tryBid cL_tryBid 3 [(0, 5, 6, 13), (0, 5, 10, 19)] fr lo [.ref xo, .int a] segsC post G Y) : CtG l yL_call cL_call 5 .int (fr + 1) (8 + (3 + 11) + lo) 1 6 [.ref xo, .int (nI 13), .int a, .int b, .int d] segsC post G Y := by
  refine x_ofG (by decide) (Nat.le_of_ble_eq_true rfl) (fun p e s m args below meth c A ls Q M hK hZ hN hw hl hret => ?_)
  obtain ⟨hx, hb, -⟩ := id M
  have hl : lv_has ls 5 [(0, .ref xo), (1, .int (nI 13)), (2, .int a), (3, .int b), (4, .int d)] := hl
  refine lv_iload_n hx hb dL_call_0 rfl (lv_at hl 1 rfl) ?_
  refine lv_tableIn (tgt := 206) hx hb dL_call_1 (by decide) (by decide) rfl (by decide) ?_
  refine lv_aload_n hx hb dL_call_206 rfl (lv_at hl 0 rfl) ?_
  refine lv_iload_n hx hb dL_call_207 rfl (lv_at hl 2 rfl) ?_
  refine x_cSL2 (As := [.ref xo, .int a]) hC cl_tryBid (List.range segsC.length) M hK hZ hN hw hl.1 allI_get allI_nd ⟨Nat.le_refl _, Nat.le_refl _⟩ ⟨Nat.le_refl _, Nat.le_refl _⟩ rfl rfl (Nat.le_of_ble_eq_true rfl) dL_call_208 (fun r sg hp ha H locs hw => ?_)
  rw [xPut_all ha] at hw
  exact hret _ _ _ r _ _ 1 6 (by decide) (by decide) dL_call_211 hw rfl ha hp
set_option maxHeartbeats 1000000 in
theorem cd_tryClose (l : Launch) (G : va_G) (Y : Nat → Nat) (xo : Nat) (a b d : Int32) {segsC : List va_W} {post : Int32 → List va_W → Prop} {fr lo : Nat} (hC : CtL l yL_tryClose cL_tryClose 2 [(0, 4, 5, 19)] fr lo [.ref xo] segsC post G Y) : CtG l yL_call cL_call 5 .int (fr + 1) (8 + (2 + 11) + lo) 1 6 [.ref xo, .int (nI 14), .int a, .int b, .int d] segsC post G Y := by
  refine x_ofG (by decide) (Nat.le_of_ble_eq_true rfl) (fun p e s m args below meth c A ls Q M hK hZ hN hw hl hret => ?_)
  obtain ⟨hx, hb, -⟩ := id M
  have hl : lv_has ls 5 [(0, .ref xo), (1, .int (nI 14)), (2, .int a), (3, .int b), (4, .int d)] := hl
  refine lv_iload_n hx hb dL_call_0 rfl (lv_at hl 1 rfl) ?_
  refine lv_tableIn (tgt := 212) hx hb dL_call_1 (by decide) (by decide) rfl (by decide) ?_
  refine lv_aload_n hx hb dL_call_212 rfl (lv_at hl 0 rfl) ?_
  refine x_cSL2 (As := [.ref xo]) hC cl_tryClose (List.range segsC.length) M hK hZ hN hw hl.1 allI_get allI_nd ⟨Nat.le_refl _, Nat.le_refl _⟩ ⟨Nat.le_refl _, Nat.le_refl _⟩ rfl rfl (Nat.le_of_ble_eq_true rfl) dL_call_213 (fun r sg hp ha H locs hw => ?_)
  rw [xPut_all ha] at hw
  exact hret _ _ _ r _ _ 1 6 (by decide) (by decide) dL_call_216 hw rfl ha hp
set_option maxHeartbeats 1000000 in
theorem cd_tryDrop (l : Launch) (G : va_G) (Y : Nat → Nat) (xo : Nat) (a b d : Int32) {segsC : List va_W} {post : Int32 → List va_W → Prop} {fr lo : Nat} (hC : CtL l yL_tryDrop cL_tryDrop 4 [(0, 6, 7, 13)] fr lo [.ref xo, .int a, .int b] segsC post G Y) : CtG l yL_call cL_call 5 .int (fr + 1) (8 + (4 + 11) + lo) 1 6 [.ref xo, .int (nI 15), .int a, .int b, .int d] segsC post G Y := by
  refine x_ofG (by decide) (Nat.le_of_ble_eq_true rfl) (fun p e s m args below meth c A ls Q M hK hZ hN hw hl hret => ?_)
  obtain ⟨hx, hb, -⟩ := id M
  have hl : lv_has ls 5 [(0, .ref xo), (1, .int (nI 15)), (2, .int a), (3, .int b), (4, .int d)] := hl
  refine lv_iload_n hx hb dL_call_0 rfl (lv_at hl 1 rfl) ?_
  refine lv_tableIn (tgt := 217) hx hb dL_call_1 (by decide) (by decide) rfl (by decide) ?_
  refine lv_aload_n hx hb dL_call_217 rfl (lv_at hl 0 rfl) ?_
  refine lv_iload_n hx hb dL_call_218 rfl (lv_at hl 2 rfl) ?_
  refine lv_iload_n hx hb dL_call_219 rfl (lv_at hl 3 rfl) ?_
  refine x_cSL2 (As := [.ref xo, .int a, .int b]) hC cl_tryDrop (List.range segsC.length) M hK hZ hN hw hl.1 allI_get allI_nd ⟨Nat.le_refl _, Nat.le_refl _⟩ ⟨Nat.le_refl _, Nat.le_refl _⟩ rfl rfl (Nat.le_of_ble_eq_true rfl) dL_call_220 (fun r sg hp ha H locs hw => ?_)
  rw [xPut_all ha] at hw
  exact hret _ _ _ r _ _ 1 6 (by decide) (by decide) dL_call_223 hw rfl ha hp
set_option maxHeartbeats 1000000 in
theorem cd_trySet (l : Launch) (G : va_G) (Y : Nat → Nat) (xo : Nat) (a b d : Int32) {segsC : List va_W} {post : Int32 → List va_W → Prop} {fr lo : Nat} (hC : CtL l yL_trySet cL_trySet 4 [(0, 6, 7, 16)] fr lo [.ref xo, .int a, .int b] segsC post G Y) : CtG l yL_call cL_call 5 .int (fr + 1) (8 + (4 + 11) + lo) 1 6 [.ref xo, .int (nI 16), .int a, .int b, .int d] segsC post G Y := by
  refine x_ofG (by decide) (Nat.le_of_ble_eq_true rfl) (fun p e s m args below meth c A ls Q M hK hZ hN hw hl hret => ?_)
  obtain ⟨hx, hb, -⟩ := id M
  have hl : lv_has ls 5 [(0, .ref xo), (1, .int (nI 16)), (2, .int a), (3, .int b), (4, .int d)] := hl
  refine lv_iload_n hx hb dL_call_0 rfl (lv_at hl 1 rfl) ?_
  refine lv_tableIn (tgt := 224) hx hb dL_call_1 (by decide) (by decide) rfl (by decide) ?_
  refine lv_aload_n hx hb dL_call_224 rfl (lv_at hl 0 rfl) ?_
  refine lv_iload_n hx hb dL_call_225 rfl (lv_at hl 2 rfl) ?_
  refine lv_iload_n hx hb dL_call_226 rfl (lv_at hl 3 rfl) ?_
  refine x_cSL2 (As := [.ref xo, .int a, .int b]) hC cl_trySet (List.range segsC.length) M hK hZ hN hw hl.1 allI_get allI_nd ⟨Nat.le_refl _, Nat.le_refl _⟩ ⟨Nat.le_refl _, Nat.le_refl _⟩ rfl rfl (Nat.le_of_ble_eq_true rfl) dL_call_227 (fun r sg hp ha H locs hw => ?_)
  rw [xPut_all ha] at hw
  exact hret _ _ _ r _ _ 1 6 (by decide) (by decide) dL_call_230 hw rfl ha hp
set_option maxHeartbeats 1000000 in
theorem cd_tryUndo (l : Launch) (G : va_G) (Y : Nat → Nat) (xo : Nat) (a b d : Int32) {segsC : List va_W} {post : Int32 → List va_W → Prop} {fr lo : Nat} (hC : CtL l yL_tryUndo cL_tryUndo 2 [(0, 4, 5, 19)] fr lo [.ref xo] segsC post G Y) : CtG l yL_call cL_call 5 .int (fr + 1) (8 + (2 + 11) + lo) 1 6 [.ref xo, .int (nI 17), .int a, .int b, .int d] segsC post G Y := by
  refine x_ofG (by decide) (Nat.le_of_ble_eq_true rfl) (fun p e s m args below meth c A ls Q M hK hZ hN hw hl hret => ?_)
  obtain ⟨hx, hb, -⟩ := id M
  have hl : lv_has ls 5 [(0, .ref xo), (1, .int (nI 17)), (2, .int a), (3, .int b), (4, .int d)] := hl
  refine lv_iload_n hx hb dL_call_0 rfl (lv_at hl 1 rfl) ?_
  refine lv_tableIn (tgt := 231) hx hb dL_call_1 (by decide) (by decide) rfl (by decide) ?_
  refine lv_aload_n hx hb dL_call_231 rfl (lv_at hl 0 rfl) ?_
  refine x_cSL2 (As := [.ref xo]) hC cl_tryUndo (List.range segsC.length) M hK hZ hN hw hl.1 allI_get allI_nd ⟨Nat.le_refl _, Nat.le_refl _⟩ ⟨Nat.le_refl _, Nat.le_refl _⟩ rfl rfl (Nat.le_of_ble_eq_true rfl) dL_call_232 (fun r sg hp ha H locs hw => ?_)
  rw [xPut_all ha] at hw
  exact hret _ _ _ r _ _ 1 6 (by decide) (by decide) dL_call_235 hw rfl ha hp
set_option maxHeartbeats 1000000 in
theorem cd_tryGets (l : Launch) (G : va_G) (Y : Nat → Nat) (xo : Nat) (a b d : Int32) {segsC : List va_W} {post : Int32 → List va_W → Prop} {fr lo : Nat} (hC : CtL l yL_tryGets cL_tryGets 3 [(0, 5, 6, 13)] fr lo [.ref xo, .int a] segsC post G Y) : CtG l yL_call cL_call 5 .int (fr + 1) (8 + (3 + 11) + lo) 1 6 [.ref xo, .int (nI 18), .int a, .int b, .int d] segsC post G Y := by
  refine x_ofG (by decide) (Nat.le_of_ble_eq_true rfl) (fun p e s m args below meth c A ls Q M hK hZ hN hw hl hret => ?_)
  obtain ⟨hx, hb, -⟩ := id M
  have hl : lv_has ls 5 [(0, .ref xo), (1, .int (nI 18)), (2, .int a), (3, .int b), (4, .int d)] := hl
  refine lv_iload_n hx hb dL_call_0 rfl (lv_at hl 1 rfl) ?_
  refine lv_tableIn (tgt := 236) hx hb dL_call_1 (by decide) (by decide) rfl (by decide) ?_
  refine lv_aload_n hx hb dL_call_236 rfl (lv_at hl 0 rfl) ?_
  refine lv_iload_n hx hb dL_call_237 rfl (lv_at hl 2 rfl) ?_
  refine x_cSL2 (As := [.ref xo, .int a]) hC cl_tryGets (List.range segsC.length) M hK hZ hN hw hl.1 allI_get allI_nd ⟨Nat.le_refl _, Nat.le_refl _⟩ ⟨Nat.le_refl _, Nat.le_refl _⟩ rfl rfl (Nat.le_of_ble_eq_true rfl) dL_call_238 (fun r sg hp ha H locs hw => ?_)
  rw [xPut_all ha] at hw
  exact hret _ _ _ r _ _ 1 6 (by decide) (by decide) dL_call_241 hw rfl ha hp
set_option maxHeartbeats 1000000 in
theorem cd_tryPays (l : Launch) (G : va_G) (Y : Nat → Nat) (xo : Nat) (a b d : Int32) {segsC : List va_W} {post : Int32 → List va_W → Prop} {fr lo : Nat} (hC : CtL l yL_tryPays cL_tryPays 3 [(0, 5, 6, 13)] fr lo [.ref xo, .int a] segsC post G Y) : CtG l yL_call cL_call 5 .int (fr + 1) (8 + (3 + 11) + lo) 1 6 [.ref xo, .int (nI 19), .int a, .int b, .int d] segsC post G Y := by
  refine x_ofG (by decide) (Nat.le_of_ble_eq_true rfl) (fun p e s m args below meth c A ls Q M hK hZ hN hw hl hret => ?_)
  obtain ⟨hx, hb, -⟩ := id M
  have hl : lv_has ls 5 [(0, .ref xo), (1, .int (nI 19)), (2, .int a), (3, .int b), (4, .int d)] := hl
  refine lv_iload_n hx hb dL_call_0 rfl (lv_at hl 1 rfl) ?_
  refine lv_tableIn (tgt := 242) hx hb dL_call_1 (by decide) (by decide) rfl (by decide) ?_
  refine lv_aload_n hx hb dL_call_242 rfl (lv_at hl 0 rfl) ?_
  refine lv_iload_n hx hb dL_call_243 rfl (lv_at hl 2 rfl) ?_
  refine x_cSL2 (As := [.ref xo, .int a]) hC cl_tryPays (List.range segsC.length) M hK hZ hN hw hl.1 allI_get allI_nd ⟨Nat.le_refl _, Nat.le_refl _⟩ ⟨Nat.le_refl _, Nat.le_refl _⟩ rfl rfl (Nat.le_of_ble_eq_true rfl) dL_call_244 (fun r sg hp ha H locs hw => ?_)
  rw [xPut_all ha] at hw
  exact hret _ _ _ r _ _ 1 6 (by decide) (by decide) dL_call_247 hw rfl ha hp
set_option maxHeartbeats 1000000 in
theorem cd_tryOneMore (l : Launch) (G : va_G) (Y : Nat → Nat) (xo : Nat) (a b d : Int32) {segsC : List va_W} {post : Int32 → List va_W → Prop} {fr lo : Nat} (hC : CtL l yL_tryOneMore cL_tryOneMore 3 [(0, 5, 6, 13)] fr lo [.ref xo, .int a] segsC post G Y) : CtG l yL_call cL_call 5 .int (fr + 1) (8 + (3 + 11) + lo) 1 6 [.ref xo, .int (nI 20), .int a, .int b, .int d] segsC post G Y := by
  refine x_ofG (by decide) (Nat.le_of_ble_eq_true rfl) (fun p e s m args below meth c A ls Q M hK hZ hN hw hl hret => ?_)
  obtain ⟨hx, hb, -⟩ := id M
  have hl : lv_has ls 5 [(0, .ref xo), (1, .int (nI 20)), (2, .int a), (3, .int b), (4, .int d)] := hl
  refine lv_iload_n hx hb dL_call_0 rfl (lv_at hl 1 rfl) ?_
  refine lv_tableIn (tgt := 248) hx hb dL_call_1 (by decide) (by decide) rfl (by decide) ?_
  refine lv_aload_n hx hb dL_call_248 rfl (lv_at hl 0 rfl) ?_
  refine lv_iload_n hx hb dL_call_249 rfl (lv_at hl 2 rfl) ?_
  refine x_cSL2 (As := [.ref xo, .int a]) hC cl_tryOneMore (List.range segsC.length) M hK hZ hN hw hl.1 allI_get allI_nd ⟨Nat.le_refl _, Nat.le_refl _⟩ ⟨Nat.le_refl _, Nat.le_refl _⟩ rfl rfl (Nat.le_of_ble_eq_true rfl) dL_call_250 (fun r sg hp ha H locs hw => ?_)
  rw [xPut_all ha] at hw
  exact hret _ _ _ r _ _ 1 6 (by decide) (by decide) dL_call_253 hw rfl ha hp
set_option maxHeartbeats 1000000 in
theorem cd_tryWouldAsk (l : Launch) (G : va_G) (Y : Nat → Nat) (xo : Nat) (a b d : Int32) {segsC : List va_W} {post : Int32 → List va_W → Prop} {fr lo : Nat} (hC : CtL l yL_tryWouldAsk cL_tryWouldAsk 4 [(0, 6, 7, 13)] fr lo [.ref xo, .int a, .int b] segsC post G Y) : CtG l yL_call cL_call 5 .int (fr + 1) (8 + (4 + 11) + lo) 1 6 [.ref xo, .int (nI 21), .int a, .int b, .int d] segsC post G Y := by
  refine x_ofG (by decide) (Nat.le_of_ble_eq_true rfl) (fun p e s m args below meth c A ls Q M hK hZ hN hw hl hret => ?_)
  obtain ⟨hx, hb, -⟩ := id M
  have hl : lv_has ls 5 [(0, .ref xo), (1, .int (nI 21)), (2, .int a), (3, .int b), (4, .int d)] := hl
  refine lv_iload_n hx hb dL_call_0 rfl (lv_at hl 1 rfl) ?_
  refine lv_tableIn (tgt := 254) hx hb dL_call_1 (by decide) (by decide) rfl (by decide) ?_
  refine lv_aload_n hx hb dL_call_254 rfl (lv_at hl 0 rfl) ?_
  refine lv_iload_n hx hb dL_call_255 rfl (lv_at hl 2 rfl) ?_
  refine lv_iload_n hx hb dL_call_256 rfl (lv_at hl 3 rfl) ?_
  refine x_cSL2 (As := [.ref xo, .int a, .int b]) hC cl_tryWouldAsk (List.range segsC.length) M hK hZ hN hw hl.1 allI_get allI_nd ⟨Nat.le_refl _, Nat.le_refl _⟩ ⟨Nat.le_refl _, Nat.le_refl _⟩ rfl rfl (Nat.le_of_ble_eq_true rfl) dL_call_257 (fun r sg hp ha H locs hw => ?_)
  rw [xPut_all ha] at hw
  exact hret _ _ _ r _ _ 1 6 (by decide) (by decide) dL_call_260 hw rfl ha hp
set_option maxHeartbeats 1000000 in
theorem cd_tryEndPrice (l : Launch) (G : va_G) (Y : Nat → Nat) (xo : Nat) (a b d : Int32) {segsC : List va_W} {post : Int32 → List va_W → Prop} {fr lo : Nat} (hC : CtL l yL_tryEndPrice cL_tryEndPrice 3 [(0, 5, 6, 13)] fr lo [.ref xo, .int a] segsC post G Y) : CtG l yL_call cL_call 5 .int (fr + 1) (8 + (3 + 11) + lo) 1 6 [.ref xo, .int (nI 22), .int a, .int b, .int d] segsC post G Y := by
  refine x_ofG (by decide) (Nat.le_of_ble_eq_true rfl) (fun p e s m args below meth c A ls Q M hK hZ hN hw hl hret => ?_)
  obtain ⟨hx, hb, -⟩ := id M
  have hl : lv_has ls 5 [(0, .ref xo), (1, .int (nI 22)), (2, .int a), (3, .int b), (4, .int d)] := hl
  refine lv_iload_n hx hb dL_call_0 rfl (lv_at hl 1 rfl) ?_
  refine lv_tableIn (tgt := 261) hx hb dL_call_1 (by decide) (by decide) rfl (by decide) ?_
  refine lv_aload_n hx hb dL_call_261 rfl (lv_at hl 0 rfl) ?_
  refine lv_iload_n hx hb dL_call_262 rfl (lv_at hl 2 rfl) ?_
  refine x_cSL2 (As := [.ref xo, .int a]) hC cl_tryEndPrice (List.range segsC.length) M hK hZ hN hw hl.1 allI_get allI_nd ⟨Nat.le_refl _, Nat.le_refl _⟩ ⟨Nat.le_refl _, Nat.le_refl _⟩ rfl rfl (Nat.le_of_ble_eq_true rfl) dL_call_263 (fun r sg hp ha H locs hw => ?_)
  rw [xPut_all ha] at hw
  exact hret _ _ _ r _ _ 1 6 (by decide) (by decide) dL_call_266 hw rfl ha hp
set_option maxHeartbeats 1000000 in
theorem cd_tryKeep (l : Launch) (G : va_G) (Y : Nat → Nat) (xo : Nat) (a b d : Int32) {segsC : List va_W} {post : Int32 → List va_W → Prop} {fr lo : Nat} (hC : CtL l yL_tryKeep cL_tryKeep 3 [(0, 5, 6, 13)] fr lo [.ref xo, .int a] segsC post G Y) : CtG l yL_call cL_call 5 .int (fr + 1) (8 + (3 + 11) + lo) 1 6 [.ref xo, .int (nI 23), .int a, .int b, .int d] segsC post G Y := by
  refine x_ofG (by decide) (Nat.le_of_ble_eq_true rfl) (fun p e s m args below meth c A ls Q M hK hZ hN hw hl hret => ?_)
  obtain ⟨hx, hb, -⟩ := id M
  have hl : lv_has ls 5 [(0, .ref xo), (1, .int (nI 23)), (2, .int a), (3, .int b), (4, .int d)] := hl
  refine lv_iload_n hx hb dL_call_0 rfl (lv_at hl 1 rfl) ?_
  refine lv_tableIn (tgt := 267) hx hb dL_call_1 (by decide) (by decide) rfl (by decide) ?_
  refine lv_aload_n hx hb dL_call_267 rfl (lv_at hl 0 rfl) ?_
  refine lv_iload_n hx hb dL_call_268 rfl (lv_at hl 2 rfl) ?_
  refine x_cSL2 (As := [.ref xo, .int a]) hC cl_tryKeep (List.range segsC.length) M hK hZ hN hw hl.1 allI_get allI_nd ⟨Nat.le_refl _, Nat.le_refl _⟩ ⟨Nat.le_refl _, Nat.le_refl _⟩ rfl rfl (Nat.le_of_ble_eq_true rfl) dL_call_269 (fun r sg hp ha H locs hw => ?_)
  rw [xPut_all ha] at hw
  exact hret _ _ _ r _ _ 1 6 (by decide) (by decide) dL_call_272 hw rfl ha hp
set_option maxHeartbeats 1000000 in
theorem cd_tryBack (l : Launch) (G : va_G) (Y : Nat → Nat) (xo : Nat) (a b d : Int32) {segsC : List va_W} {post : Int32 → List va_W → Prop} {fr lo : Nat} (hC : CtL l yL_tryBack cL_tryBack 3 [(0, 5, 6, 13), (0, 5, 10, 19)] fr lo [.ref xo, .int a] segsC post G Y) : CtG l yL_call cL_call 5 .int (fr + 1) (8 + (3 + 11) + lo) 1 6 [.ref xo, .int (nI 24), .int a, .int b, .int d] segsC post G Y := by
  refine x_ofG (by decide) (Nat.le_of_ble_eq_true rfl) (fun p e s m args below meth c A ls Q M hK hZ hN hw hl hret => ?_)
  obtain ⟨hx, hb, -⟩ := id M
  have hl : lv_has ls 5 [(0, .ref xo), (1, .int (nI 24)), (2, .int a), (3, .int b), (4, .int d)] := hl
  refine lv_iload_n hx hb dL_call_0 rfl (lv_at hl 1 rfl) ?_
  refine lv_tableOut (tgt := 273) hx hb dL_call_1 (by decide) (by decide) ?_
  refine lv_aload_n hx hb dL_call_273 rfl (lv_at hl 0 rfl) ?_
  refine lv_iload_n hx hb dL_call_274 rfl (lv_at hl 2 rfl) ?_
  refine x_cSL2 (As := [.ref xo, .int a]) hC cl_tryBack (List.range segsC.length) M hK hZ hN hw hl.1 allI_get allI_nd ⟨Nat.le_refl _, Nat.le_refl _⟩ ⟨Nat.le_refl _, Nat.le_refl _⟩ rfl rfl (Nat.le_of_ble_eq_true rfl) dL_call_275 (fun r sg hp ha H locs hw => ?_)
  rw [xPut_all ha] at hw
  exact hret _ _ _ r _ _ 1 6 (by decide) (by decide) dL_call_278 hw rfl ha hp
