set_option maxHeartbeats 4000000 in
set_option maxRecDepth 20000 in
theorem k_X5_needKind (l : Launch) (G : va_G) (Y : Nat → Nat) (xo h0 h1 hh sl sv tz az : Nat) (k : Nat) (hk : k < 3) : CtV l yX5_needKind cX5_needKind 2 2 42 [.ref xo, .int (nI k)] [[(xo, .inr (4, [.ref h0, .ref h1, .ref hh, .ref sl, .ref sv, .ref tz, .ref az]))]] (fun sg => sg = [[(xo, .inr (4, [.ref h0, .ref h1, .ref hh, .ref sl, .ref sv, .ref tz, .ref az]))]]) G Y := by
  refine x_ofV (by decide) (Nat.le_of_ble_eq_true rfl) (fun p e s m args below meth c A ls Q M hK hZ hw hl hret => ?_)
  obtain ⟨hx, hb, -⟩ := id M
  have hl : lv_has ls 2 [(0, .ref xo), (1, .int (nI k))] := hl
  refine lv_iload_n hx hb dX5_needKind_0 rfl (lv_at hl 1 rfl) ?_
  refine x_cSI (As := [.int (nI k)]) (k_X5_noKind l G Y (nI k)) cw_X5_296 [] M hK hZ hw hl.1 rfl (by decide) ⟨by decide, by decide⟩ ⟨Nat.zero_le _, Nat.zero_le _⟩ rfl rfl (Nat.le_of_ble_eq_true rfl) dX5_needKind_1 (fun r sg h_1 H locs hw => ?_)
  obtain ⟨rfl, rfl⟩ := h_1
  have hw : xW G A s.heap [[(xo, .inr (4, [.ref h0, .ref h1, .ref hh, .ref sl, .ref sv, .ref tz, .ref az]))]] H locs := hw
  refine x_beq M (tgt := 18) dX5_needKind_4 (by decide) (fun c_2 => ?_) (fun c_2 => absurd c_2 (fun z => nzT z (by omega) ⟨by omega, by omega⟩))
  exact hret _ _ _ _ _ dX5_needKind_18 hw rfl rfl
set_option maxHeartbeats 4000000 in
set_option maxRecDepth 20000 in
theorem t_X5_needKind (l : Launch) (hfl : l.stackTraces = false) (G : va_G) (Y : Nat → Nat) (xo h0 h1 hh sl sv tz az : Nat) (k : Int32) (hk : (!inZ k.toInt 0 2) = true) : CtT l yX5_needKind cX5_needKind 2 none 6 82 [.ref xo, .int k] [[(xo, .inr (4, [.ref h0, .ref h1, .ref hh, .ref sl, .ref sv, .ref tz, .ref az]))]] eIOB G Y := by
  refine x_ofT (by decide) (Nat.le_of_ble_eq_true rfl) (fun p e s m args below meth c A ls Q M hK hZ hw hl htab hlk hQ => ?_)
  obtain ⟨hx, hb, -⟩ := id M
  have hl : lv_has ls 2 [(0, .ref xo), (1, .int k)] := hl
  refine lv_iload_n hx hb dX5_needKind_0 rfl (lv_at hl 1 rfl) ?_
  refine x_cSI (As := [.int k]) (k_X5_noKind l G Y k) cw_X5_296 [] M hK hZ hw hl.1 rfl (by decide) ⟨by decide, by decide⟩ ⟨Nat.zero_le _, Nat.zero_le _⟩ rfl rfl (Nat.le_of_ble_eq_true rfl) dX5_needKind_1 (fun r sg h_1 H locs hw => ?_)
  obtain ⟨rfl, rfl⟩ := h_1
  have hw : xW G A s.heap [[(xo, .inr (4, [.ref h0, .ref h1, .ref hh, .ref sl, .ref sv, .ref tz, .ref az]))]] H locs := hw
  refine x_beq M (tgt := 18) dX5_needKind_4 (by decide) (fun c_2 => absurd c_2 (fun z => by rw [hk] at z; exact absurd z (by decide))) (fun c_2 => ?_)
  exact x_throwSW (own := RX5) (ik := 160) (ic := 164) (is := 300) (q := 216) (text := "no such kind") hfl M hK hZ hw hl.1 htab hlk hQ thr_IOB (by simp [xStr]) dX5_needKind_7 dX5_needKind_10 dX5_needKind_11 dX5_needKind_14 dX5_needKind_17 ⟨by decide, by decide, by decide, by decide⟩
set_option maxHeartbeats 4000000 in
set_option maxRecDepth 20000 in
theorem k_X5_needBidder (l : Launch) (G : va_G) (Y : Nat → Nat) (xo h0 h1 hh sl sv tz az : Nat) (j : Nat) (ρ : Nat → Nat) (γ : Nat → Nat → Nat) (hI : Inv ρ) (hj : j < ρ 4) : CtV l yX5_needBidder cX5_needBidder 2 2 43 [.ref xo, .int (nI j)] [[(xo, .inr (4, [.ref h0, .ref h1, .ref hh, .ref sl, .ref sv, .ref tz, .ref az]))], aucW Y h0 ρ γ] (fun sg => sg = [[(xo, .inr (4, [.ref h0, .ref h1, .ref hh, .ref sl, .ref sv, .ref tz, .ref az]))], aucW Y h0 ρ γ]) G Y := by
  refine x_ofV (by decide) (Nat.le_of_ble_eq_true rfl) (fun p e s m args below meth c A ls Q M hK hZ hw hl hret => ?_)
  obtain ⟨hx, hb, -⟩ := id M
  have hl : lv_has ls 2 [(0, .ref xo), (1, .int (nI j))] := hl
  have := hI.n6
  have := hI.over
  have := hI.keep
  have := hI.stepp
  refine lv_aload_n hx hb dX5_needBidder_0 rfl (lv_at hl 0 rfl) ?_
  refine x_get M hK hw 0 0 rfl rfl ff_X5_10 rfl dX5_needBidder_1 ?_
  refine lv_iload_n hx hb dX5_needBidder_4 rfl (lv_at hl 1 rfl) ?_
  refine x_cVI (As := [.int (nI j)]) (k_X1_noBidder l G Y h0 ρ γ (nI j) (hI)) cw_X5_302 [1] 1 0 M hK hZ hw hl.1 rfl (by decide) rfl rfl rfl ⟨by decide, by decide⟩ ⟨Nat.zero_le _, Nat.zero_le _⟩ rfl rfl (Nat.le_of_ble_eq_true rfl) dX5_needBidder_5 (fun r sg h_1 H locs hw => ?_)
  obtain ⟨rfl, rfl⟩ := h_1
  have hw : xW G A s.heap [[(xo, .inr (4, [.ref h0, .ref h1, .ref hh, .ref sl, .ref sv, .ref tz, .ref az]))], aucW Y h0 ρ γ] H locs := hw
  refine x_beq M (tgt := 22) dX5_needBidder_8 (by decide) (fun c_2 => ?_) (fun c_2 => absurd c_2 (fun z => nzT z (by omega) ⟨by omega, by omega⟩))
  exact hret _ _ _ _ _ dX5_needBidder_22 hw rfl rfl
set_option maxHeartbeats 4000000 in
set_option maxRecDepth 20000 in
theorem t_X5_needBidder (l : Launch) (hfl : l.stackTraces = false) (G : va_G) (Y : Nat → Nat) (xo h0 h1 hh sl sv tz az : Nat) (b : Int32) (ρ : Nat → Nat) (γ : Nat → Nat → Nat) (hI : Inv ρ) (hk : (!inZ b.toInt 0 ((ρ 4 : Int) - 1)) = true) : CtT l yX5_needBidder cX5_needBidder 2 none 6 82 [.ref xo, .int b] [[(xo, .inr (4, [.ref h0, .ref h1, .ref hh, .ref sl, .ref sv, .ref tz, .ref az]))], aucW Y h0 ρ γ] eIOB G Y := by
  refine x_ofT (by decide) (Nat.le_of_ble_eq_true rfl) (fun p e s m args below meth c A ls Q M hK hZ hw hl htab hlk hQ => ?_)
  obtain ⟨hx, hb, -⟩ := id M
  have hl : lv_has ls 2 [(0, .ref xo), (1, .int b)] := hl
  have := hI.n6
  refine lv_aload_n hx hb dX5_needBidder_0 rfl (lv_at hl 0 rfl) ?_
  refine x_get M hK hw 0 0 rfl rfl ff_X5_10 rfl dX5_needBidder_1 ?_
  refine lv_iload_n hx hb dX5_needBidder_4 rfl (lv_at hl 1 rfl) ?_
  refine x_cVI (As := [.int b]) (k_X1_noBidder l G Y h0 ρ γ b (hI)) cw_X5_302 [1] 1 0 M hK hZ hw hl.1 rfl (by decide) rfl rfl rfl ⟨by decide, by decide⟩ ⟨Nat.zero_le _, Nat.zero_le _⟩ rfl rfl (Nat.le_of_ble_eq_true rfl) dX5_needBidder_5 (fun r sg h_1 H locs hw => ?_)
  obtain ⟨rfl, rfl⟩ := h_1
  have hw : xW G A s.heap [[(xo, .inr (4, [.ref h0, .ref h1, .ref hh, .ref sl, .ref sv, .ref tz, .ref az]))], aucW Y h0 ρ γ] H locs := hw
  refine x_beq M (tgt := 22) dX5_needBidder_8 (by decide) (fun c_2 => absurd c_2 (fun z => by rw [hk] at z; exact absurd z (by decide))) (fun c_2 => ?_)
  exact x_throwSW (own := RX5) (ik := 160) (ic := 164) (is := 305) (q := 218) (text := "no such bidder") hfl M hK hZ hw hl.1 htab hlk hQ thr_IOB (by simp [xStr]) dX5_needBidder_11 dX5_needBidder_14 dX5_needBidder_15 dX5_needBidder_18 dX5_needBidder_21 ⟨by decide, by decide, by decide, by decide⟩
set_option maxHeartbeats 4000000 in
set_option maxRecDepth 20000 in
theorem k_X5_needSlot (l : Launch) (G : va_G) (Y : Nat → Nat) (xo h0 h1 hh sl sv tz az : Nat) (k : Nat) (hk : k < 2) : CtV l yX5_needSlot cX5_needSlot 2 1 22 [.ref xo, .int (nI k)] [[(xo, .inr (4, [.ref h0, .ref h1, .ref hh, .ref sl, .ref sv, .ref tz, .ref az]))]] (fun sg => sg = [[(xo, .inr (4, [.ref h0, .ref h1, .ref hh, .ref sl, .ref sv, .ref tz, .ref az]))]]) G Y := by
  refine x_ofV (by decide) (Nat.le_of_ble_eq_true rfl) (fun p e s m args below meth c A ls Q M hK hZ hw hl hret => ?_)
  obtain ⟨hx, hb, -⟩ := id M
  have hl : lv_has ls 2 [(0, .ref xo), (1, .int (nI k))] := hl
  refine lv_iload_n hx hb dX5_needSlot_0 rfl (lv_at hl 1 rfl) ?_
  refine lv_iconst (v := (nI 0)) hx hb dX5_needSlot_1 (by decide) ?_
  refine lv_iconst (v := (nI 1)) hx hb dX5_needSlot_2 (by decide) ?_
  refine x_cSI (As := [.int (nI k), .int (nI 0), .int (nI 1)]) (k_X5_outside l G Y (nI k) (nI 0) (nI 1)) cw_X5_48 [] M hK hZ hw hl.1 rfl (by decide) ⟨by decide, by decide⟩ ⟨Nat.zero_le _, Nat.zero_le _⟩ rfl rfl (Nat.le_of_ble_eq_true rfl) dX5_needSlot_3 (fun r sg h_1 H locs hw => ?_)
  obtain ⟨rfl, rfl⟩ := h_1
  have hw : xW G A s.heap [[(xo, .inr (4, [.ref h0, .ref h1, .ref hh, .ref sl, .ref sv, .ref tz, .ref az]))]] H locs := hw
  refine x_beq M (tgt := 20) dX5_needSlot_6 (by decide) (fun c_2 => ?_) (fun c_2 => absurd c_2 (fun z => nzT (a := 0) (b := 1) z (by omega) ⟨by omega, by omega⟩))
  exact hret _ _ _ _ _ dX5_needSlot_20 hw rfl rfl
set_option maxHeartbeats 4000000 in
set_option maxRecDepth 20000 in
theorem t_X5_needSlot (l : Launch) (hfl : l.stackTraces = false) (G : va_G) (Y : Nat → Nat) (xo h0 h1 hh sl sv tz az : Nat) (k : Int32) (hk : (!inZ k.toInt 0 1) = true) : CtT l yX5_needSlot cX5_needSlot 2 none 6 82 [.ref xo, .int k] [[(xo, .inr (4, [.ref h0, .ref h1, .ref hh, .ref sl, .ref sv, .ref tz, .ref az]))]] eIOB G Y := by
  refine x_ofT (by decide) (Nat.le_of_ble_eq_true rfl) (fun p e s m args below meth c A ls Q M hK hZ hw hl htab hlk hQ => ?_)
  obtain ⟨hx, hb, -⟩ := id M
  have hl : lv_has ls 2 [(0, .ref xo), (1, .int k)] := hl
  refine lv_iload_n hx hb dX5_needSlot_0 rfl (lv_at hl 1 rfl) ?_
  refine lv_iconst (v := (nI 0)) hx hb dX5_needSlot_1 (by decide) ?_
  refine lv_iconst (v := (nI 1)) hx hb dX5_needSlot_2 (by decide) ?_
  refine x_cSI (As := [.int k, .int (nI 0), .int (nI 1)]) (k_X5_outside l G Y k (nI 0) (nI 1)) cw_X5_48 [] M hK hZ hw hl.1 rfl (by decide) ⟨by decide, by decide⟩ ⟨Nat.zero_le _, Nat.zero_le _⟩ rfl rfl (Nat.le_of_ble_eq_true rfl) dX5_needSlot_3 (fun r sg h_1 H locs hw => ?_)
  obtain ⟨rfl, rfl⟩ := h_1
  have hw : xW G A s.heap [[(xo, .inr (4, [.ref h0, .ref h1, .ref hh, .ref sl, .ref sv, .ref tz, .ref az]))]] H locs := hw
  refine x_beq M (tgt := 20) dX5_needSlot_6 (by decide) (fun c_2 => absurd c_2 (fun z => by have z2 : (!inZ k.toInt 0 1) = false := z; rw [hk] at z2; exact absurd z2 (by decide))) (fun c_2 => ?_)
  exact x_throwSW (own := RX5) (ik := 160) (ic := 164) (is := 307) (q := 229) (text := "no such save slot") hfl M hK hZ hw hl.1 htab hlk hQ thr_IOB (by simp [xStr]) dX5_needSlot_9 dX5_needSlot_12 dX5_needSlot_13 dX5_needSlot_16 dX5_needSlot_19 ⟨by decide, by decide, by decide, by decide⟩
set_option maxHeartbeats 4000000 in
set_option maxRecDepth 20000 in
theorem k_X5_refuse (l : Launch) (G : va_G) (Y : Nat → Nat)   : CtV l yX5_refuse cX5_refuse 1 0 0 [.int (nI 0)] [] (fun sg => sg = []) G Y := by
  refine x_ofV (by decide) (Nat.le_of_ble_eq_true rfl) (fun p e s m args below meth c A ls Q M hK hZ hw hl hret => ?_)
  obtain ⟨hx, hb, -⟩ := id M
  have hl : lv_has ls 1 [(0, .int (nI 0))] := hl
  refine lv_iload_n hx hb dX5_refuse_0 rfl (lv_at hl 0 rfl) ?_
  refine lv_tableOut (tgt := 61) hx hb dX5_refuse_1 (by decide) (by decide) ?_
  exact hret _ _ _ _ _ dX5_refuse_61 hw rfl rfl
set_option maxHeartbeats 4000000 in
set_option maxRecDepth 20000 in
theorem t_X5_refuse_1 (l : Launch) (hfl : l.stackTraces = false) (G : va_G) (Y : Nat → Nat)   : CtT l yX5_refuse cX5_refuse 1 none 6 82 [.int (nI 1)] [] eIOB G Y := by
  refine x_ofT (by decide) (Nat.le_of_ble_eq_true rfl) (fun p e s m args below meth c A ls Q M hK hZ hw hl htab hlk hQ => ?_)
  obtain ⟨hx, hb, -⟩ := id M
  have hl : lv_has ls 1 [(0, .int (nI 1))] := hl
  refine lv_iload_n hx hb dX5_refuse_0 rfl (lv_at hl 0 rfl) ?_
  refine lv_tableIn (tgt := 28) hx hb dX5_refuse_1 (by decide) (by decide) rfl (by decide) ?_
  exact x_throwSW (own := RX5) (ik := 160) (ic := 164) (is := 309) (q := 222) (text := "no such kind, bidder or package") hfl M hK hZ hw hl.1 htab hlk hQ thr_IOB (by simp [xStr]) dX5_refuse_28 dX5_refuse_31 dX5_refuse_32 dX5_refuse_35 dX5_refuse_38 ⟨by decide, by decide, by decide, by decide⟩
set_option maxHeartbeats 4000000 in
set_option maxRecDepth 20000 in
theorem t_X5_refuse_2 (l : Launch) (hfl : l.stackTraces = false) (G : va_G) (Y : Nat → Nat)   : CtT l yX5_refuse cX5_refuse 1 none 6 82 [.int (nI 2)] [] eIAE G Y := by
  refine x_ofT (by decide) (Nat.le_of_ble_eq_true rfl) (fun p e s m args below meth c A ls Q M hK hZ hw hl htab hlk hQ => ?_)
  obtain ⟨hx, hb, -⟩ := id M
  have hl : lv_has ls 1 [(0, .int (nI 2))] := hl
  refine lv_iload_n hx hb dX5_refuse_0 rfl (lv_at hl 0 rfl) ?_
  refine lv_tableIn (tgt := 39) hx hb dX5_refuse_1 (by decide) (by decide) rfl (by decide) ?_
  exact x_throwSW (own := RX5) (ik := 52) (ic := 56) (is := 311) (q := 223) (text := "an argument is out of its range") hfl M hK hZ hw hl.1 htab hlk hQ thr_IAE (by simp [xStr]) dX5_refuse_39 dX5_refuse_42 dX5_refuse_43 dX5_refuse_46 dX5_refuse_49 ⟨by decide, by decide, by decide, by decide⟩
set_option maxHeartbeats 4000000 in
set_option maxRecDepth 20000 in
theorem t_X5_refuse_3 (l : Launch) (hfl : l.stackTraces = false) (G : va_G) (Y : Nat → Nat)   : CtT l yX5_refuse cX5_refuse 1 none 6 82 [.int (nI 3)] [] eISE G Y := by
  refine x_ofT (by decide) (Nat.le_of_ble_eq_true rfl) (fun p e s m args below meth c A ls Q M hK hZ hw hl htab hlk hQ => ?_)
  obtain ⟨hx, hb, -⟩ := id M
  have hl : lv_has ls 1 [(0, .int (nI 3))] := hl
  refine lv_iload_n hx hb dX5_refuse_0 rfl (lv_at hl 0 rfl) ?_
  refine lv_tableIn (tgt := 50) hx hb dX5_refuse_1 (by decide) (by decide) rfl (by decide) ?_
  exact x_throwSW (own := RX5) (ik := 63) (ic := 67) (is := 313) (q := 224) (text := "not allowed as the auction stands") hfl M hK hZ hw hl.1 htab hlk hQ thr_ISE (by simp [xStr]) dX5_refuse_50 dX5_refuse_53 dX5_refuse_54 dX5_refuse_57 dX5_refuse_60 ⟨by decide, by decide, by decide, by decide⟩
set_option maxHeartbeats 4000000 in
set_option maxRecDepth 20000 in
theorem k_X5_runToTheEnd (l : Launch) (G : va_G) (Y : Nat → Nat) (xo h0 h1 hh sl sv tz az : Nat) (ρ : Nat → Nat) (γ : Nat → Nat → Nat) (κ : Nat → Nat) (γ1 : Nat → Nat → Nat) (hI : Inv ρ) : CtI l yX5_runToTheEnd cX5_runToTheEnd 3 .int 4 95 [.ref xo] [[(xo, .inr (4, [.ref h0, .ref h1, .ref hh, .ref sl, .ref sv, .ref tz, .ref az]))], aucW Y h0 ρ γ, aucW Y h1 κ γ1] (fun r sg => r = nI (endR ρ).2 ∧ ∃ γ' : Nat → Nat → Nat, sg = [[(xo, .inr (4, [.ref h0, .ref h1, .ref hh, .ref sl, .ref sv, .ref tz, .ref az]))], aucW Y h0 ρ γ, aucW Y h1 ((endR ρ).1) γ']) G Y := by
  refine x_ofI (by decide) (Nat.le_of_ble_eq_true rfl) (fun p e s m args below meth c A ls Q M hK hZ hw hl hret => ?_)
  obtain ⟨hx, hb, -⟩ := id M
  have hl : lv_has ls 3 [(0, .ref xo)] := hl
  have := hI.n6
  have := hI.over
  have := hI.keep
  have := hI.stepp
  refine lv_aload_n hx hb dX5_runToTheEnd_0 rfl (lv_at hl 0 rfl) ?_
  refine x_get M hK hw 0 0 rfl rfl ff_X5_16 rfl dX5_runToTheEnd_1 ?_
  refine lv_aload_n hx hb dX5_runToTheEnd_4 rfl (lv_at hl 0 rfl) ?_
  refine x_get M hK hw 0 0 rfl rfl ff_X5_10 rfl dX5_runToTheEnd_5 ?_
  refine x_cVV (As := [.ref h0]) (k_X1_become l G Y h1 h0 κ γ1 ρ γ (hI)) cw_X5_260 [2, 1] 2 0 M hK hZ hw hl.1 rfl (by decide) rfl rfl rfl ⟨by decide, by decide⟩ ⟨Nat.zero_le _, Nat.zero_le _⟩ rfl rfl (Nat.le_of_ble_eq_true rfl) dX5_runToTheEnd_8 (fun sg h_1 H locs hw => ?_)
  obtain rfl := h_1
  have hw : xW G A s.heap [[(xo, .inr (4, [.ref h0, .ref h1, .ref hh, .ref sl, .ref sv, .ref tz, .ref az]))], aucW Y h0 ρ γ, aucW Y h1 ρ γ] H locs := hw
  refine lv_iconst (v := (nI 0)) hx hb dX5_runToTheEnd_11 (by decide) ?_
  refine lv_istore_n (lv' := [(1, .int (nI 0)), (0, .ref xo)]) hx hb dX5_runToTheEnd_12 rfl hl (by decide) rfl (fun ls hl => ?_)
  have L13 : ∀ (fu : Nat) (i : Nat) (σ : Nat → Nat) (γs : Nat → Nat → Nat), (200 - i < fu) → (i ≤ 200) → (runE 200 ρ 0 = runE (200 - i) σ i) → (Inv σ) → ∀ (H : Heap) (locs : List Loc), xW G A s.heap [[(xo, .inr (4, [.ref h0, .ref h1, .ref hh, .ref sl, .ref sv, .ref tz, .ref az]))], aucW Y h0 ρ γ, aucW Y h1 σ γs] H locs → ∀ (ls : Array Slot), lv_has ls 3 [(0, .ref xo), (1, .int (nI i))] → W p l e (xRm 4 95) s m args below meth c H locs 0 0 Q (F0 m 13 ls []) := by
    intro fu
    induction fu with
    | zero => intro i σ γs hm; exact absurd hm (Nat.not_lt_zero _)
    | succ fu ih13 =>
      intro i σ γs hm hi hr hIs H locs hw ls hl
      have := hIs.over
      have := hIs.n6
      refine lv_aload_n hx hb dX5_runToTheEnd_13 rfl (lv_at hl 0 rfl) ?_
      refine x_get M hK hw 0 0 rfl rfl ff_X5_16 rfl dX5_runToTheEnd_14 ?_
      refine x_get M hK hw 2 0 rfl rfl ff_X5_98 rfl dX5_runToTheEnd_17 ?_
      refine x_zne M (tgt := 71) (by omega) dX5_runToTheEnd_20 (by decide) (fun c_2 => ?_) (fun c_2 => ?_)
      · have hE : endR ρ = (σ, i) := by unfold endR; rw [hr]; exact runE_over (by omega)
        refine lv_iload_n hx hb dX5_runToTheEnd_71 rfl (lv_at hl 1 rfl) ?_
        exact hret _ _ _ (nI i) _ _ dX5_runToTheEnd_72 hw rfl rfl ⟨by rw [hE], γs, by rw [hE]⟩
      refine lv_iload_n hx hb dX5_runToTheEnd_23 rfl (lv_at hl 1 rfl) ?_
      refine lv_sipush (v := (nI 200)) hx hb dX5_runToTheEnd_24 (by decide) ?_
      refine x_cge M (tgt := 71) (by omega) (by decide) dX5_runToTheEnd_27 (by decide) (fun c_3 => ?_) (fun c_3 => ?_)
      · have hE : endR ρ = (σ, i) := by unfold endR; rw [hr, show 200 - i = 0 by omega]; rfl
        refine lv_iload_n hx hb dX5_runToTheEnd_71 rfl (lv_at hl 1 rfl) ?_
        exact hret _ _ _ (nI i) _ _ dX5_runToTheEnd_72 hw rfl rfl ⟨by rw [hE], γs, by rw [hE]⟩
      refine lv_iconst (v := (nI 0)) hx hb dX5_runToTheEnd_30 (by decide) ?_
      refine lv_istore_n (lv' := [(2, .int (nI 0)), (0, .ref xo), (1, .int (nI i))]) hx hb dX5_runToTheEnd_31 rfl hl (by decide) rfl (fun ls hl => ?_)
      have L32 : ∀ (fu : Nat) (b : Nat) (τ : Nat → Nat) (γt : Nat → Nat → Nat), (σ 4 - b < fu) → (b ≤ σ 4) → (τ = bidN σ b) → ∀ (H : Heap) (locs : List Loc), xW G A s.heap [[(xo, .inr (4, [.ref h0, .ref h1, .ref hh, .ref sl, .ref sv, .ref tz, .ref az]))], aucW Y h0 ρ γ, aucW Y h1 τ γt] H locs → ∀ (ls : Array Slot), lv_has ls 3 [(0, .ref xo), (1, .int (nI i)), (2, .int (nI b))] → W p l e (xRm 4 95) s m args below meth c H locs 0 0 Q (F0 m 32 ls []) := by
        intro fu
        induction fu with
        | zero => intro b τ γt hm; exact absurd hm (Nat.not_lt_zero _)
        | succ fu ih32 =>
          intro b τ γt hm hb1 ht H locs hw ls hl
          have hIt : Inv τ := by rw [ht]; exact Inv_bidN hIs hb1
          have ht4 : τ 4 = σ 4 := by rw [ht]; exact bidN_4
          have := hIt.n6
          refine lv_iload_n hx hb dX5_runToTheEnd_32 rfl (lv_at hl 2 rfl) ?_
          refine lv_aload_n hx hb dX5_runToTheEnd_33 rfl (lv_at hl 0 rfl) ?_
          refine x_get M hK hw 0 0 rfl rfl ff_X5_16 rfl dX5_runToTheEnd_34 ?_
          refine x_get M hK hw 2 0 rfl rfl ff_X5_91 rfl dX5_runToTheEnd_37 ?_
          refine x_cge M (tgt := 57) (by omega) (by omega) dX5_runToTheEnd_40 (by decide) (fun c_4 => ?_) (fun c_4 => ?_)
          · have ht2 : τ = bidN σ (σ 4) := by rw [ht, show b = σ 4 by omega]
            refine lv_aload_n hx hb dX5_runToTheEnd_57 rfl (lv_at hl 0 rfl) ?_
            refine x_get M hK hw 0 0 rfl rfl ff_X5_16 rfl dX5_runToTheEnd_58 ?_
            refine x_cVI (As := []) (k_X1_closeRound l G Y h1 τ γt (hIt)) cw_X5_219 [2] 2 0 M hK hZ hw hl.1 rfl (by decide) rfl rfl rfl ⟨by decide, by decide⟩ ⟨Nat.zero_le _, Nat.zero_le _⟩ rfl rfl (Nat.le_of_ble_eq_true rfl) dX5_runToTheEnd_61 (fun r sg h_5 H locs hw => ?_)
            obtain ⟨rfl, γa6, rfl⟩ := h_5
            have hw : xW G A s.heap [[(xo, .inr (4, [.ref h0, .ref h1, .ref hh, .ref sl, .ref sv, .ref tz, .ref az]))], aucW Y h0 ρ γ, aucW Y h1 (mClose τ) γa6] H locs := hw
            have hR : mClose τ = rnd σ := by rw [ht2]; rfl
            rw [hR] at hw
            have hw : xW G A s.heap [[(xo, .inr (4, [.ref h0, .ref h1, .ref hh, .ref sl, .ref sv, .ref tz, .ref az]))], aucW Y h0 ρ γ, aucW Y h1 (rnd σ) γa6] H locs := hw
            refine lv_pop hx hb dX5_runToTheEnd_64 rfl ?_
            refine lv_iinc (v := (nI (1 + i))) (lv' := [(1, .int (nI (1 + i))), (0, .ref xo), (2, .int (nI b))]) hx hb dX5_runToTheEnd_65 hl (k := 1) rfl (by rw [show (1 : Int) = ((1 : Nat) : Int) from rfl, nI_inc]; exact congrArg nI (by omega)) (by decide) rfl (fun ls hl => ?_)
            refine lv_goto (tgt := 13) hx hb dX5_runToTheEnd_68 (by decide) ?_
            exact ih13 (1 + i) (rnd σ) γa6 (by omega) (by omega) (by rw [hr]; exact runE_go (by omega) (by omega)) (Inv_rnd2 hIs) _ _ hw _ (lv_sub hl [1, 0] rfl)
          refine lv_aload_n hx hb dX5_runToTheEnd_43 rfl (lv_at hl 0 rfl) ?_
          refine x_get M hK hw 0 0 rfl rfl ff_X5_16 rfl dX5_runToTheEnd_44 ?_
          refine lv_iload_n hx hb dX5_runToTheEnd_47 rfl (lv_at hl 2 rfl) ?_
          refine x_cVV (As := [.int (nI b)]) (k_X1_bidByValues l G Y h1 b τ γt (hIt) (by omega)) cw_X5_213 [2] 2 0 M hK hZ hw hl.1 rfl (by decide) rfl rfl rfl ⟨by decide, by decide⟩ ⟨Nat.zero_le _, Nat.zero_le _⟩ rfl rfl (Nat.le_of_ble_eq_true rfl) dX5_runToTheEnd_48 (fun sg h_7 H locs hw => ?_)
          obtain ⟨γa8, rfl⟩ := h_7
          have hw : xW G A s.heap [[(xo, .inr (4, [.ref h0, .ref h1, .ref hh, .ref sl, .ref sv, .ref tz, .ref az]))], aucW Y h0 ρ γ, aucW Y h1 (mBid τ b) γa8] H locs := hw
          refine lv_iinc (v := (nI (1 + b))) (lv' := [(2, .int (nI (1 + b))), (0, .ref xo), (1, .int (nI i))]) hx hb dX5_runToTheEnd_51 hl (k := 2) rfl (by rw [show (1 : Int) = ((1 : Nat) : Int) from rfl, nI_inc]; exact congrArg nI (by omega)) (by decide) rfl (fun ls hl => ?_)
          refine lv_goto (tgt := 32) hx hb dX5_runToTheEnd_54 (by decide) ?_
          exact ih32 (1 + b) (mBid τ b) γa8 (by omega) (by omega) (by rw [bidN_1, ht]) _ _ hw _ (lv_sub hl [1, 2, 0] rfl)
      exact L32 (σ 4 - 0 + 1) 0 σ γs (Nat.lt_succ_self _) (by omega) (rfl) _ _ hw _ (lv_sub hl [1, 2, 0] rfl)
  exact L13 (200 - 0 + 1) 0 ρ γ (Nat.lt_succ_self _) (by omega) (rfl) (hI) _ _ hw _ (lv_sub hl [1, 0] rfl)
