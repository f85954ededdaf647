theorem idxC_cases {ch : Nat} (h : idxC ch ≠ 0) : ch = 115 ∨ ch = 98 ∨ ch = 118 ∨ ch = 113 ∨ ch = 119 ∨ ch = 99 := by
  unfold idxC at h
  (repeat' split at h) <;> omega
def txtW (Y : Nat → Nat) (z : Nat) (lt : Nat → Nat) (n : Nat) : va_W := [(z, .inr (3, [.ref (z + 1), .int (nI n)])), (z + 1, .inl (Y 2, 120, .inl (rowF lt)))]
set_option maxHeartbeats 4000000 in
set_option maxRecDepth 20000 in
theorem k_X4_isFull (l : Launch) (G : va_G) (Y : Nat → Nat) (tz n : Nat) (lt : Nat → Nat) (hn : n ≤ 120) (hlt : ∀ i, i < 120 → lt i < 256) : CtI l yX4_isFull cX4_isFull 1 .boolean 0 0 [.ref tz] [txtW Y tz lt n] (fun r sg => r = b2i (decide (120 ≤ n)) ∧ sg = [txtW Y tz lt n]) G Y := by
  refine x_ofI (by decide) (Nat.le_of_ble_eq_true rfl) (fun p e s m args below meth c A ls Q M hK hZ hw hl hret => ?_)
  obtain ⟨hx, hb, -⟩ := id M
  have hl : lv_has ls 1 [(0, .ref tz)] := hl
  refine lv_aload_n hx hb dX4_isFull_0 rfl (lv_at hl 0 rfl) ?_
  refine x_get M hK hw 0 0 rfl rfl ff_X4_15 rfl dX4_isFull_1 ?_
  refine lv_bipush (v := (nI 120)) hx hb dX4_isFull_4 (by decide) ?_
  refine x_clt M (tgt := 13) (by omega) (by decide) dX4_isFull_6 (by decide) (fun c_1 => ?_) (fun c_1 => ?_)
  · refine lv_iconst (v := (nI 0)) hx hb dX4_isFull_13 (by decide) ?_
    exact hret _ _ _ (nI 0) _ _ dX4_isFull_14 hw rfl rfl ⟨b2i_f (decide_eq_false (by omega)), rfl⟩
  refine lv_iconst (v := (nI 1)) hx hb dX4_isFull_9 (by decide) ?_
  refine lv_goto (tgt := 14) hx hb dX4_isFull_10 (by decide) ?_
  exact hret _ _ _ (nI 1) _ _ dX4_isFull_14 hw rfl rfl ⟨b2i_t (decide_eq_true (by omega)), rfl⟩
set_option maxHeartbeats 4000000 in
set_option maxRecDepth 20000 in
theorem k_X4_put (l : Launch) (G : va_G) (Y : Nat → Nat) (tz n : Nat) (lt : Nat → Nat) (x : Nat) (hn : n ≤ 120) (hlt : ∀ i, i < 120 → lt i < 256) (hn2 : n < 120) (hx2 : x < 256) : CtI l yX4_put cX4_put 2 .int 0 0 [.ref tz, .int (nI x)] [txtW Y tz lt n] (fun r sg => r = nI (1 + n) ∧ sg = [txtW Y tz (setN lt n x) (1 + n)]) G Y := by
  refine x_ofI (by decide) (Nat.le_of_ble_eq_true rfl) (fun p e s m args below meth c A ls Q M hK hZ hw hl hret => ?_)
  obtain ⟨hx, hb, -⟩ := id M
  have hl : lv_has ls 2 [(0, .ref tz), (1, .int (nI x))] := hl
  refine lv_aload_n hx hb dX4_put_0 rfl (lv_at hl 0 rfl) ?_
  refine x_get M hK hw 0 0 rfl rfl ff_X4_9 rfl dX4_put_1 ?_
  refine lv_aload_n hx hb dX4_put_4 rfl (lv_at hl 0 rfl) ?_
  refine x_get M hK hw 0 0 rfl rfl ff_X4_15 rfl dX4_put_5 ?_
  refine lv_iload_n hx hb dX4_put_8 rfl (lv_at hl 1 rfl) ?_
  refine x_cast M hK hw 0 1 rfl rfl (by omega) (by decide) (by omega) dX4_put_9 (fun H locs hw => ?_)
  rw [upd_row] at hw
  have hw : xW G A s.heap [txtW Y tz (setN lt n x) n] H locs := hw
  refine lv_aload_n hx hb dX4_put_10 rfl (lv_at hl 0 rfl) ?_
  refine lv_dup hx hb dX4_put_11 rfl ?_
  refine x_get M hK hw 0 0 rfl rfl ff_X4_15 rfl dX4_put_12 ?_
  refine lv_iconst (v := (nI 1)) hx hb dX4_put_15 (by decide) ?_
  refine x_iadd M (n := 1 + n) dX4_put_16 (by omega) ?_
  refine x_put M hK hw 0 0 rfl rfl fp_X4_15 rfl rfl (Nat.le_of_ble_eq_true rfl) dX4_put_17 (fun H locs hw => ?_)
  have hw : xW G A s.heap [txtW Y tz (setN lt n x) (1 + n)] H locs := hw
  refine lv_aload_n hx hb dX4_put_20 rfl (lv_at hl 0 rfl) ?_
  refine x_get M hK hw 0 0 rfl rfl ff_X4_15 rfl dX4_put_21 ?_
  exact hret _ _ _ (nI (1 + n)) _ _ dX4_put_24 hw rfl rfl ⟨rfl, rfl⟩
set_option maxHeartbeats 4000000 in
set_option maxRecDepth 20000 in
theorem k_X4_empty (l : Launch) (G : va_G) (Y : Nat → Nat) (tz n : Nat) (lt : Nat → Nat) (hn : n ≤ 120) (hlt : ∀ i, i < 120 → lt i < 256) : CtI l yX4_empty cX4_empty 2 .int 0 0 [.ref tz] [txtW Y tz lt n] (fun r sg => r = nI n ∧ sg = [txtW Y tz lt 0]) G Y := by
  refine x_ofI (by decide) (Nat.le_of_ble_eq_true rfl) (fun p e s m args below meth c A ls Q M hK hZ hw hl hret => ?_)
  obtain ⟨hx, hb, -⟩ := id M
  have hl : lv_has ls 2 [(0, .ref tz)] := hl
  refine lv_aload_n hx hb dX4_empty_0 rfl (lv_at hl 0 rfl) ?_
  refine x_get M hK hw 0 0 rfl rfl ff_X4_15 rfl dX4_empty_1 ?_
  refine lv_istore_n (lv' := [(1, .int (nI n)), (0, .ref tz)]) hx hb dX4_empty_4 rfl hl (by decide) rfl (fun ls hl => ?_)
  refine lv_aload_n hx hb dX4_empty_5 rfl (lv_at hl 1 rfl) ?_
  refine lv_iconst (v := (nI 0)) hx hb dX4_empty_6 (by decide) ?_
  refine x_put M hK hw 0 0 rfl rfl fp_X4_15 rfl rfl (Nat.le_of_ble_eq_true rfl) dX4_empty_7 (fun H locs hw => ?_)
  have hw : xW G A s.heap [txtW Y tz lt 0] H locs := hw
  refine lv_iload_n hx hb dX4_empty_10 rfl (lv_at hl 0 rfl) ?_
  exact hret _ _ _ (nI n) _ _ dX4_empty_11 hw rfl rfl ⟨rfl, rfl⟩
set_option maxHeartbeats 4000000 in
set_option maxRecDepth 20000 in
theorem k_X4_number (l : Launch) (G : va_G) (Y : Nat → Nat) (tz n : Nat) (lt : Nat → Nat) (i k : Nat) (hn : n ≤ 120) (hlt : ∀ i, i < 120 → lt i < 256) (hk : k ≤ 3) (hik : i + k ≤ n) (hdg : ∀ q, q < k → 48 ≤ lt (i + q) ∧ lt (i + q) ≤ 57) : CtI l yX4_number cX4_number 5 .int 0 0 [.ref tz, .int (nI i), .int (nI k)] [txtW Y tz lt n] (fun r sg => r = nI (numD lt i k) ∧ sg = [txtW Y tz lt n]) G Y := by
  refine x_ofI (by decide) (Nat.le_of_ble_eq_true rfl) (fun p e s m args below meth c A ls Q M hK hZ hw hl hret => ?_)
  obtain ⟨hx, hb, -⟩ := id M
  have hl : lv_has ls 5 [(0, .ref tz), (1, .int (nI i)), (2, .int (nI k))] := hl
  refine lv_iconst (v := (nI 0)) hx hb dX4_number_0 (by decide) ?_
  refine lv_istore_n (lv' := [(3, .int (nI 0)), (0, .ref tz), (1, .int (nI i)), (2, .int (nI k))]) hx hb dX4_number_1 rfl hl (by decide) rfl (fun ls hl => ?_)
  refine lv_iload_n hx hb dX4_number_2 rfl (lv_at hl 2 rfl) ?_
  refine lv_istore (lv' := [(4, .int (nI i)), (3, .int (nI 0)), (0, .ref tz), (1, .int (nI i)), (2, .int (nI k))]) hx hb dX4_number_3 hl (by decide) rfl (fun ls hl => ?_)
  have hl : lv_has ls 5 [(4, .int (nI (i + 0))), (3, .int (nI 0)), (0, .ref tz), (1, .int (nI i)), (2, .int (nI k))] := hl
  have L5 : ∀ (fu : Nat) (q1 : Nat) (x : Nat), (k - q1 < fu) → (q1 ≤ k) → (x = numD lt i q1) → ∀ (H : Heap) (locs : List Loc), xW G A s.heap [txtW Y tz lt n] H locs → ∀ (ls : Array Slot), lv_has ls 5 [(0, .ref tz), (1, .int (nI i)), (2, .int (nI k)), (3, .int (nI x)), (4, .int (nI (i + q1)))] → W p l e (xRm 0 0) s m args below meth c H locs 0 0 Q (F0 m 5 ls []) := by
    intro fu
    induction fu with
    | zero => intro q1 x hm; exact absurd hm (Nat.not_lt_zero _)
    | succ fu ih5 =>
      intro q1 x hm hq1 hx2 H locs hw ls hl
      have hx9 : x ≤ 999 := by rw [hx2]; exact numD_le (fun q hq => (hdg q (by omega)).2) (by omega)
      refine lv_iload hx hb dX4_number_5 (lv_at hl 4 rfl) ?_
      refine lv_iload_n hx hb dX4_number_7 rfl (lv_at hl 1 rfl) ?_
      refine lv_iload_n hx hb dX4_number_8 rfl (lv_at hl 2 rfl) ?_
      refine x_iadd M (n := i + k) dX4_number_9 rfl ?_
      refine x_cge M (tgt := 44) (by omega) (by omega) dX4_number_10 (by decide) (fun c_1 => ?_) (fun c_1 => ?_)
      · refine lv_iload_n hx hb dX4_number_44 rfl (lv_at hl 3 rfl) ?_
        exact hret _ _ _ (nI x) _ _ dX4_number_45 hw rfl rfl ⟨by rw [show k = q1 by omega]; exact congrArg nI hx2, rfl⟩
      refine lv_iload hx hb dX4_number_13 (lv_at hl 4 rfl) ?_
      refine lv_aload_n hx hb dX4_number_15 rfl (lv_at hl 0 rfl) ?_
      refine x_get M hK hw 0 0 rfl rfl ff_X4_15 rfl dX4_number_16 ?_
      refine x_cge M (tgt := 44) (by omega) (by omega) dX4_number_19 (by decide) (fun c_2 => absurd c_2 (by omega)) (fun c_2 => ?_)
      have hd1 := hdg q1 (by omega)
      refine lv_bipush (v := (nI 10)) hx hb dX4_number_22 (by decide) ?_
      refine lv_iload_n hx hb dX4_number_24 rfl (lv_at hl 3 rfl) ?_
      refine x_imul M (n := 10 * x) dX4_number_25 (by omega) ?_
      refine lv_aload_n hx hb dX4_number_26 rfl (lv_at hl 0 rfl) ?_
      refine x_get M hK hw 0 0 rfl rfl ff_X4_9 rfl dX4_number_27 ?_
      refine lv_iload hx hb dX4_number_30 (lv_at hl 4 rfl) ?_
      refine x_cald M hK hw 0 1 rfl rfl (by omega) (by decide) dX4_number_32 ?_
      refine x_topN (n := lt (i + q1)) rfl ?_
      have q_3 : lt (i + q1) < 256 := hlt (i + q1) (by omega)
      refine lv_bipush (v := (nI 48)) hx hb dX4_number_33 (by decide) ?_
      refine x_isub M (n := (lt (i + q1) - 48)) dX4_number_35 (by omega) ?_
      refine x_iadd M (n := 10 * x + (lt (i + q1) - 48)) dX4_number_36 rfl ?_
      refine lv_istore_n (lv' := [(3, .int (nI (10 * x + (lt (i + q1) - 48)))), (0, .ref tz), (1, .int (nI i)), (2, .int (nI k)), (4, .int (nI (i + q1)))]) hx hb dX4_number_37 rfl hl (by decide) rfl (fun ls hl => ?_)
      refine lv_iinc (v := (nI (1 + i + q1))) (lv' := [(4, .int (nI (1 + i + q1))), (3, .int (nI (10 * x + (lt (i + q1) - 48)))), (0, .ref tz), (1, .int (nI i)), (2, .int (nI k))]) hx hb dX4_number_38 hl (k := 4) rfl (by rw [show (1 : Int) = ((1 : Nat) : Int) from rfl, nI_inc]; exact congrArg nI (by omega)) (by decide) rfl (fun ls hl => ?_)
      rw [show 1 + i + q1 = i + (1 + q1) by omega] at hl
      refine lv_goto (tgt := 5) hx hb dX4_number_41 (by decide) ?_
      exact ih5 (1 + q1) (10 * x + (lt (i + q1) - 48)) (by omega) (by omega) (by rw [numD_s, hx2]) _ _ hw _ (lv_sub hl [2, 3, 4, 1, 0] rfl)
  exact L5 (k - 0 + 1) 0 0 (Nat.lt_succ_self _) (by omega) (rfl) _ _ hw _ (lv_sub hl [2, 3, 4, 1, 0] rfl)
set_option maxHeartbeats 4000000 in
set_option maxRecDepth 20000 in
theorem k_X4_firstError (l : Launch) (G : va_G) (Y : Nat → Nat) (tz n : Nat) (lt : Nat → Nat) (hn : n ≤ 120) (hlt : ∀ i, i < 120 → lt i < 256) : CtI l yX4_firstError cX4_firstError 5 .int 5 111 [.ref tz] [txtW Y tz lt n] (fun r sg => r = mw (errP lt n) ∧ sg = [txtW Y tz lt n]) G Y := by
  refine x_ofI (by decide) (Nat.le_of_ble_eq_true rfl) (fun p e s m args below meth c A ls Q M hK hZ hw hl hret => ?_)
  obtain ⟨hx, hb, -⟩ := id M
  have hl : lv_has ls 5 [(0, .ref tz)] := hl
  refine lv_aload_n hx hb dX4_firstError_0 rfl (lv_at hl 0 rfl) ?_
  refine x_get M hK hw 0 0 rfl rfl ff_X4_15 rfl dX4_firstError_1 ?_
  refine x_zeq M (tgt := 18) (by omega) dX4_firstError_4 (by decide) (fun c_1 => ?_) (fun c_1 => ?_)
  · refine lv_iconst (v := (nI 0)) hx hb dX4_firstError_18 (by decide) ?_
    exact hret _ _ _ (nI 0) _ _ dX4_firstError_19 hw rfl rfl ⟨by unfold errP; rw [if_pos (Or.inl (by omega))]; exact mw_s.symm, rfl⟩
  refine lv_aload_n hx hb dX4_firstError_7 rfl (lv_at hl 0 rfl) ?_
  refine x_get M hK hw 0 0 rfl rfl ff_X4_9 rfl dX4_firstError_8 ?_
  refine lv_iconst (v := (nI 0)) hx hb dX4_firstError_11 (by decide) ?_
  refine x_cald M hK hw 0 1 rfl rfl (by decide) (by decide) dX4_firstError_12 ?_
  refine x_topN (n := lt 0) rfl ?_
  have q_2 : lt 0 < 256 := hlt 0 (by omega)
  refine lv_bipush (v := (nI 76)) hx hb dX4_firstError_13 (by decide) ?_
  refine x_ceq M (tgt := 20) (by omega) (by decide) dX4_firstError_15 (by decide) (fun c_3 => ?_) (fun c_3 => ?_)
  · have herr : errP lt n = tE lt n 1 := by unfold errP; rw [if_neg (by omega)]
    refine lv_iconst (v := (nI 1)) hx hb dX4_firstError_20 (by decide) ?_
    refine lv_istore_n (lv' := [(1, .int (nI 1)), (0, .ref tz)]) hx hb dX4_firstError_21 rfl hl (by decide) rfl (fun ls hl => ?_)
    have L22 : ∀ (fu : Nat) (at1 : Nat), (1 + n - at1 < fu) → (1 ≤ at1) → (at1 ≤ n ∨ at1 = 1) → (tE lt n 1 = tE lt n at1) → ∀ (H : Heap) (locs : List Loc), xW G A s.heap [txtW Y tz lt n] H locs → ∀ (ls : Array Slot), lv_has ls 5 [(0, .ref tz), (1, .int (nI at1))] → W p l e (xRm 5 111) s m args below meth c H locs 0 0 Q (F0 m 22 ls []) := by
      intro fu
      induction fu with
      | zero => intro at1 hm; exact absurd hm (Nat.not_lt_zero _)
      | succ fu ih22 =>
        intro at1 hm hat hat2 hte H locs hw ls hl
        refine lv_iload_n hx hb dX4_firstError_22 rfl (lv_at hl 1 rfl) ?_
        refine lv_aload_n hx hb dX4_firstError_23 rfl (lv_at hl 0 rfl) ?_
        refine x_get M hK hw 0 0 rfl rfl ff_X4_15 rfl dX4_firstError_24 ?_
        refine x_cge M (tgt := 109) (by omega) (by omega) dX4_firstError_27 (by decide) (fun c_4 => ?_) (fun c_4 => ?_)
        · refine lv_iconst (v := (-1)) hx hb dX4_firstError_109 (by decide) ?_
          exact hret _ _ _ (-1) _ _ dX4_firstError_110 hw rfl rfl ⟨by rw [herr, hte, tE_end (by omega)]; rfl, rfl⟩
        refine lv_aload_n hx hb dX4_firstError_30 rfl (lv_at hl 0 rfl) ?_
        refine x_get M hK hw 0 0 rfl rfl ff_X4_9 rfl dX4_firstError_31 ?_
        refine lv_iload_n hx hb dX4_firstError_34 rfl (lv_at hl 1 rfl) ?_
        refine x_cald M hK hw 0 1 rfl rfl (by omega) (by decide) dX4_firstError_35 ?_
        refine x_topN (n := lt at1) rfl ?_
        have q_5 : lt at1 < 256 := hlt at1 (by omega)
        refine lv_istore_n (lv' := [(2, .int (nI (lt at1))), (0, .ref tz), (1, .int (nI at1))]) hx hb dX4_firstError_36 rfl hl (by decide) rfl (fun ls hl => ?_)
        refine lv_iload_n hx hb dX4_firstError_37 rfl (lv_at hl 0 rfl) ?_
        refine x_cSI (As := [.int (nI (lt at1))]) (k_X4_isCommand l G Y (lt at1) (by omega)) cw_X4_19 [] M hK hZ hw hl.1 rfl (by decide) ⟨by decide, by decide⟩ ⟨Nat.zero_le _, Nat.zero_le _⟩ rfl rfl (Nat.le_of_ble_eq_true rfl) dX4_firstError_38 (fun r sg h_6 H locs hw => ?_)
        obtain ⟨rfl, rfl⟩ := h_6
        have hw : xW G A s.heap [txtW Y tz lt n] H locs := hw
        refine x_bne M (tgt := 46) dX4_firstError_41 (by decide) (fun c_7 => ?_) (fun c_7 => ?_)
        · have hidx : idxC (lt at1) ≠ 0 := by have := of_decide_eq_true c_7; omega
          have hd5 := dgN_le (ch := lt at1)
          refine lv_iload_n hx hb dX4_firstError_46 rfl (lv_at hl 2 rfl) ?_
          refine lv_iconst (v := (nI 1)) hx hb dX4_firstError_47 (by decide) ?_
          refine x_iadd M (n := 1 + at1) dX4_firstError_48 (by omega) ?_
          refine lv_iload_n hx hb dX4_firstError_49 rfl (lv_at hl 0 rfl) ?_
          refine x_cSI (As := [.int (nI (lt at1))]) (k_X4_digitsOf l G Y (lt at1) (by omega)) cw_X4_23 [] M hK hZ hw hl.1 rfl (by decide) ⟨by decide, by decide⟩ ⟨Nat.zero_le _, Nat.zero_le _⟩ rfl rfl (Nat.le_of_ble_eq_true rfl) dX4_firstError_50 (fun r sg h_8 H locs hw => ?_)
          obtain ⟨rfl, rfl⟩ := h_8
          have hw : xW G A s.heap [txtW Y tz lt n] H locs := hw
          refine x_iadd M (n := 1 + at1 + dgN (lt at1)) dX4_firstError_53 rfl ?_
          refine lv_istore_n (lv' := [(3, .int (nI (1 + at1 + dgN (lt at1)))), (2, .int (nI (lt at1))), (0, .ref tz), (1, .int (nI at1))]) hx hb dX4_firstError_54 rfl hl (by decide) rfl (fun ls hl => ?_)
          refine lv_iload_n hx hb dX4_firstError_55 rfl (lv_at hl 3 rfl) ?_
          refine lv_iconst (v := (nI 1)) hx hb dX4_firstError_56 (by decide) ?_
          refine x_iadd M (n := 1 + at1) dX4_firstError_57 (by omega) ?_
          refine lv_istore (lv' := [(4, .int (nI (1 + at1))), (3, .int (nI (1 + at1 + dgN (lt at1)))), (2, .int (nI (lt at1))), (0, .ref tz), (1, .int (nI at1))]) hx hb dX4_firstError_58 hl (by decide) rfl (fun ls hl => ?_)
          have hl : lv_has ls 5 [(4, .int (nI (1 + at1 + 0))), (3, .int (nI (1 + at1 + dgN (lt at1)))), (2, .int (nI (lt at1))), (0, .ref tz), (1, .int (nI at1))] := hl
          have L60 : ∀ (fu : Nat) (p1 : Nat), (dgN (lt at1) - p1 < fu) → (p1 ≤ dgN (lt at1)) → (∀ q, q < p1 → okD lt n at1 q (lt at1)) → ∀ (H : Heap) (locs : List Loc), xW G A s.heap [txtW Y tz lt n] H locs → ∀ (ls : Array Slot), lv_has ls 5 [(0, .ref tz), (1, .int (nI at1)), (2, .int (nI (lt at1))), (3, .int (nI (1 + at1 + dgN (lt at1)))), (4, .int (nI (1 + at1 + p1)))] → W p l e (xRm 5 111) s m args below meth c H locs 0 0 Q (F0 m 60 ls []) := by
            intro fu
            induction fu with
            | zero => intro p1 hm; exact absurd hm (Nat.not_lt_zero _)
            | succ fu ih60 =>
              intro p1 hm hp1 hokp H locs hw ls hl
              refine lv_iload hx hb dX4_firstError_60 (lv_at hl 4 rfl) ?_
              refine lv_iload_n hx hb dX4_firstError_62 rfl (lv_at hl 3 rfl) ?_
              refine x_cge M (tgt := 104) (by omega) (by omega) dX4_firstError_63 (by decide) (fun c_9 => ?_) (fun c_9 => ?_)
              · have hend : 1 + at1 + dgN (lt at1) ≤ n := by rcases Nat.eq_zero_or_pos (dgN (lt at1)) with hz | hz; omega; (have := (hokp (dgN (lt at1) - 1) (by omega)).1; omega)
                refine lv_iload_n hx hb dX4_firstError_104 rfl (lv_at hl 3 rfl) ?_
                refine lv_istore_n (lv' := [(1, .int (nI (1 + at1 + dgN (lt at1)))), (0, .ref tz), (2, .int (nI (lt at1))), (3, .int (nI (1 + at1 + dgN (lt at1)))), (4, .int (nI (1 + at1 + p1)))]) hx hb dX4_firstError_105 rfl hl (by decide) rfl (fun ls hl => ?_)
                refine lv_goto (tgt := 22) hx hb dX4_firstError_106 (by decide) ?_
                exact ih22 (1 + at1 + dgN (lt at1)) (by omega) (by omega) (Or.inl hend) (by rw [hte, tE_next (by omega) hidx (fun q hq => hokp q (by omega))]; congr 1; omega) _ _ hw _ (lv_sub hl [1, 0] rfl)
              refine lv_iload hx hb dX4_firstError_66 (lv_at hl 4 rfl) ?_
              refine lv_aload_n hx hb dX4_firstError_68 rfl (lv_at hl 0 rfl) ?_
              refine x_get M hK hw 0 0 rfl rfl ff_X4_15 rfl dX4_firstError_69 ?_
              refine x_cge M (tgt := 95) (by omega) (by omega) dX4_firstError_72 (by decide) (fun c_10 => ?_) (fun c_10 => ?_)
              · refine lv_iload hx hb dX4_firstError_95 (lv_at hl 4 rfl) ?_
                exact hret _ _ _ (nI (1 + at1 + p1)) _ _ dX4_firstError_97 hw rfl rfl ⟨by rw [herr, hte, tE_bad (p := p1) (by omega) hidx (by omega) hokp (fun z => by have := z.1; omega), show at1 + 1 + p1 + 1 = 1 + at1 + p1 + 1 by omega]; exact mw_s.symm, rfl⟩
              refine lv_iload_n hx hb dX4_firstError_75 rfl (lv_at hl 2 rfl) ?_
              refine lv_iload hx hb dX4_firstError_76 (lv_at hl 4 rfl) ?_
              refine lv_iload_n hx hb dX4_firstError_78 rfl (lv_at hl 1 rfl) ?_
              refine x_isub M (n := (1 + p1)) dX4_firstError_79 (by omega) ?_
              refine lv_iconst (v := (nI 1)) hx hb dX4_firstError_80 (by decide) ?_
              refine x_isub M (n := p1) dX4_firstError_81 (by omega) ?_
              refine lv_aload_n hx hb dX4_firstError_82 rfl (lv_at hl 0 rfl) ?_
              refine x_get M hK hw 0 0 rfl rfl ff_X4_9 rfl dX4_firstError_83 ?_
              refine lv_iload hx hb dX4_firstError_86 (lv_at hl 4 rfl) ?_
              refine x_cald M hK hw 0 1 rfl rfl (by omega) (by decide) dX4_firstError_88 ?_
              refine x_topN (n := lt (1 + at1 + p1)) rfl ?_
              have q_11 : lt (1 + at1 + p1) < 256 := hlt (1 + at1 + p1) (by omega)
              refine x_cSI (As := [.int (nI (lt at1)), .int (nI p1), .int (nI (lt (1 + at1 + p1)))]) (k_X4_allows l G Y (lt at1) p1 (lt (1 + at1 + p1)) (by omega) (by omega) (by omega)) cw_X4_27 [] M hK hZ hw hl.1 rfl (by decide) ⟨by decide, by decide⟩ ⟨Nat.zero_le _, Nat.zero_le _⟩ rfl rfl (Nat.le_of_ble_eq_true rfl) dX4_firstError_89 (fun r sg h_12 H locs hw => ?_)
              obtain ⟨rfl, rfl⟩ := h_12
              have hw : xW G A s.heap [txtW Y tz lt n] H locs := hw
              refine x_bne M (tgt := 98) dX4_firstError_92 (by decide) (fun c_13 => ?_) (fun c_13 => ?_)
              · refine lv_iinc (v := (nI (2 + at1 + p1))) (lv' := [(4, .int (nI (2 + at1 + p1))), (0, .ref tz), (1, .int (nI at1)), (2, .int (nI (lt at1))), (3, .int (nI (1 + at1 + dgN (lt at1))))]) hx hb dX4_firstError_98 hl (k := 4) rfl (by rw [show (1 : Int) = ((1 : Nat) : Int) from rfl, nI_inc]; exact congrArg nI (by omega)) (by decide) rfl (fun ls hl => ?_)
                rw [show 2 + at1 + p1 = 1 + at1 + (1 + p1) by omega] at hl
                refine lv_goto (tgt := 60) hx hb dX4_firstError_101 (by decide) ?_
                exact ih60 (1 + p1) (by omega) (by omega) (fun q hq => by by_cases hz : q = p1; (subst hz; have hal := of_decide_eq_true c_13; exact ⟨by omega, by rw [show at1 + 1 + q = 1 + at1 + q by omega]; exact hal.2.1, by rw [show at1 + 1 + q = 1 + at1 + q by omega]; exact hal.2.2⟩); exact hokp q (by omega)) _ _ hw _ (lv_sub hl [1, 2, 3, 4, 0] rfl)
              refine lv_iload hx hb dX4_firstError_95 (lv_at hl 4 rfl) ?_
              exact hret _ _ _ (nI (1 + at1 + p1)) _ _ dX4_firstError_97 hw rfl rfl ⟨by rw [herr, hte, tE_bad (p := p1) (by omega) hidx (by omega) hokp (fun z => of_decide_eq_false c_13 ⟨by omega, by have := z.2.1; rw [show at1 + 1 + p1 = 1 + at1 + p1 by omega] at this; exact this, by have := z.2.2; rw [show at1 + 1 + p1 = 1 + at1 + p1 by omega] at this; exact this⟩), show at1 + 1 + p1 + 1 = 1 + at1 + p1 + 1 by omega]; exact mw_s.symm, rfl⟩
          exact L60 (dgN (lt at1) - 0 + 1) 0 (Nat.lt_succ_self _) (by omega) (fun q hq => absurd hq (Nat.not_lt_zero _)) _ _ hw _ (lv_sub hl [3, 4, 2, 1, 0] rfl)
        refine lv_iload_n hx hb dX4_firstError_44 rfl (lv_at hl 2 rfl) ?_
        exact hret _ _ _ (nI at1) _ _ dX4_firstError_45 hw rfl rfl ⟨by rw [herr, hte, tE_no (by omega) (by have := of_decide_eq_false c_7; omega)]; exact mw_s.symm, rfl⟩
    exact L22 (1 + n - 1 + 1) 1 (Nat.lt_succ_self _) (by omega) (Or.inr rfl) (rfl) _ _ hw _ (lv_sub hl [1, 0] rfl)
  refine lv_iconst (v := (nI 0)) hx hb dX4_firstError_18 (by decide) ?_
  exact hret _ _ _ (nI 0) _ _ dX4_firstError_19 hw rfl rfl ⟨by unfold errP; rw [if_pos (Or.inr (by omega))]; exact mw_s.symm, rfl⟩
set_option maxHeartbeats 4000000 in
set_option maxRecDepth 20000 in
theorem k_X4_doCommand (l : Launch) (G : va_G) (Y : Nat → Nat) (tz n : Nat) (lt : Nat → Nat) (h i : Nat) (ρ : Nat → Nat) (γ : Nat → Nat → Nat) (hn : n ≤ 120) (hlt : ∀ i, i < 120 → lt i < 256) (hI : Inv ρ) (hi : i < n) (hidx : idxC (lt i) ≠ 0) (hok : ∀ q, q < dgN (lt i) → okD lt n i q (lt i)) : CtI l yX4_doCommand cX4_doCommand 3 .boolean 5 116 [.ref tz, .ref h, .int (nI i)] [txtW Y tz lt n, aucW Y h ρ γ] (fun r sg => r = b2i (decide (cmT ρ lt i = 0)) ∧ ∃ γ' : Nat → Nat → Nat, sg = [txtW Y tz lt n, aucW Y h (cmR ρ lt i) γ']) G Y := by
  refine x_ofI (by decide) (Nat.le_of_ble_eq_true rfl) (fun p e s m args below meth c A ls Q M hK hZ hw hl hret => ?_)
  obtain ⟨hx, hb, -⟩ := id M
  have hl : lv_has ls 3 [(0, .ref tz), (1, .ref h), (2, .int (nI i))] := hl
  have := hI.n6
  refine lv_aload_n hx hb dX4_doCommand_0 rfl (lv_at hl 0 rfl) ?_
  refine x_get M hK hw 0 0 rfl rfl ff_X4_9 rfl dX4_doCommand_1 ?_
  refine lv_iload_n hx hb dX4_doCommand_4 rfl (lv_at hl 2 rfl) ?_
  refine x_cald M hK hw 0 1 rfl rfl (by omega) (by decide) dX4_doCommand_5 ?_
  refine x_topN (n := lt i) rfl ?_
  have q_1 : lt i < 256 := hlt i (by omega)
  rcases idxC_cases hidx with e_2 | e_2 | e_2 | e_2 | e_2 | e_2
  · refine x_topN (n := 115) (congrArg nI e_2) ?_
    refine lv_lookup (tgt := 64) hx hb dX4_doCommand_6 (by decide) rfl (by decide) ?_
    have hg : dgN (lt i) = 3 := by rw [e_2]; rfl
    have hdd : ∀ q, q < dgN (lt i) → i + 1 + q < n ∧ 48 ≤ lt (i + 1 + q) ∧ lt (i + 1 + q) ≤ 57 := fun q hq => ⟨(hok q hq).1, okD_d (by omega) (hok q hq) hq⟩
    have hdd0 := hdd 0 (by omega)
    have hdd1 := hdd 1 (by omega)
    have hdd2 := hdd 2 (by omega)
    refine lv_aload_n hx hb dX4_doCommand_64 rfl (lv_at hl 1 rfl) ?_
    refine lv_aload_n hx hb dX4_doCommand_65 rfl (lv_at hl 0 rfl) ?_
    refine lv_iload_n hx hb dX4_doCommand_66 rfl (lv_at hl 2 rfl) ?_
    refine lv_iconst (v := (nI 1)) hx hb dX4_doCommand_67 (by decide) ?_
    refine x_iadd M (n := 1 + i) dX4_doCommand_68 (by omega) ?_
    refine x_topN (n := (i + 1)) (congrArg nI (by omega)) ?_
    refine lv_iconst (v := (nI 1)) hx hb dX4_doCommand_69 (by decide) ?_
    refine x_cVI (As := [.int (nI (i + 1)), .int (nI 1)]) (k_X4_number l G Y tz n lt (i + 1) 1 (by omega) (by omega) (by omega) (by omega) (fun q hq => by have := (hdd (0 + q) (by omega)).2; rw [show i + 1 + (0 + q) = i + 1 + q by omega] at this; exact this)) cw_X4_35 [0] 0 0 M hK hZ hw hl.1 rfl (by decide) rfl rfl rfl ⟨by decide, by decide⟩ ⟨Nat.zero_le _, Nat.zero_le _⟩ rfl rfl (Nat.le_of_ble_eq_true rfl) dX4_doCommand_70 (fun r sg h_3 H locs hw => ?_)
    obtain ⟨rfl, rfl⟩ := h_3
    have hw : xW G A s.heap [txtW Y tz lt n, aucW Y h ρ γ] H locs := hw
    have hn9_4 : numD lt (i + 1) 1 ≤ 999 := numD_le (fun q hq => by have := (hdd (0 + q) (by omega)).2.2; rw [show i + 1 + (0 + q) = i + 1 + q by omega] at this; exact this) (by decide)
    refine lv_aload_n hx hb dX4_doCommand_73 rfl (lv_at hl 0 rfl) ?_
    refine lv_iload_n hx hb dX4_doCommand_74 rfl (lv_at hl 2 rfl) ?_
    refine lv_iconst (v := (nI 2)) hx hb dX4_doCommand_75 (by decide) ?_
    refine x_iadd M (n := 2 + i) dX4_doCommand_76 (by omega) ?_
    refine x_topN (n := (i + 2)) (congrArg nI (by omega)) ?_
    refine lv_iconst (v := (nI 1)) hx hb dX4_doCommand_77 (by decide) ?_
    refine x_cVI (As := [.int (nI (i + 2)), .int (nI 1)]) (k_X4_number l G Y tz n lt (i + 2) 1 (by omega) (by omega) (by omega) (by omega) (fun q hq => by have := (hdd (1 + q) (by omega)).2; rw [show i + 1 + (1 + q) = i + 2 + q by omega] at this; exact this)) cw_X4_35 [0] 0 0 M hK hZ hw hl.1 rfl (by decide) rfl rfl rfl ⟨by decide, by decide⟩ ⟨Nat.zero_le _, Nat.zero_le _⟩ rfl rfl (Nat.le_of_ble_eq_true rfl) dX4_doCommand_78 (fun r sg h_5 H locs hw => ?_)
    obtain ⟨rfl, rfl⟩ := h_5
    have hw : xW G A s.heap [txtW Y tz lt n, aucW Y h ρ γ] H locs := hw
    have hn9_6 : numD lt (i + 2) 1 ≤ 999 := numD_le (fun q hq => by have := (hdd (1 + q) (by omega)).2.2; rw [show i + 1 + (1 + q) = i + 2 + q by omega] at this; exact this) (by decide)
    refine lv_aload_n hx hb dX4_doCommand_81 rfl (lv_at hl 0 rfl) ?_
    refine lv_iload_n hx hb dX4_doCommand_82 rfl (lv_at hl 2 rfl) ?_
    refine lv_iconst (v := (nI 3)) hx hb dX4_doCommand_83 (by decide) ?_
    refine x_iadd M (n := 3 + i) dX4_doCommand_84 (by omega) ?_
    refine x_topN (n := (i + 3)) (congrArg nI (by omega)) ?_
    refine lv_iconst (v := (nI 1)) hx hb dX4_doCommand_85 (by decide) ?_
    refine x_cVI (As := [.int (nI (i + 3)), .int (nI 1)]) (k_X4_number l G Y tz n lt (i + 3) 1 (by omega) (by omega) (by omega) (by omega) (fun q hq => by have := (hdd (2 + q) (by omega)).2; rw [show i + 1 + (2 + q) = i + 3 + q by omega] at this; exact this)) cw_X4_35 [0] 0 0 M hK hZ hw hl.1 rfl (by decide) rfl rfl rfl ⟨by decide, by decide⟩ ⟨Nat.zero_le _, Nat.zero_le _⟩ rfl rfl (Nat.le_of_ble_eq_true rfl) dX4_doCommand_86 (fun r sg h_7 H locs hw => ?_)
    obtain ⟨rfl, rfl⟩ := h_7
    have hw : xW G A s.heap [txtW Y tz lt n, aucW Y h ρ γ] H locs := hw
    have hn9_8 : numD lt (i + 3) 1 ≤ 999 := numD_le (fun q hq => by have := (hdd (2 + q) (by omega)).2.2; rw [show i + 1 + (2 + q) = i + 3 + q by omega] at this; exact this) (by decide)
    refine x_cVI (As := [.int (nI (numD lt (i + 1) 1)), .int (nI (numD lt (i + 2) 1)), .int (nI (numD lt (i + 3) 1))]) (k_X1_tryOffer l G Y h (numD lt (i + 1) 1) (numD lt (i + 2) 1) (numD lt (i + 3) 1) ρ γ (hI) (by omega) (by omega) (by omega)) cw_X4_39 [1] 1 0 M hK hZ hw hl.1 rfl (by decide) rfl rfl rfl ⟨by decide, by decide⟩ ⟨Nat.zero_le _, Nat.zero_le _⟩ rfl rfl (Nat.le_of_ble_eq_true rfl) dX4_doCommand_89 (fun r sg h_9 H locs hw => ?_)
    obtain ⟨rfl, γa10, rfl⟩ := h_9
    have hw : xW G A s.heap [txtW Y tz lt n, aucW Y h (dOffer ρ (numD lt (i + 1) 1) (numD lt (i + 2) 1) (numD lt (i + 3) 1)) γa10] H locs := hw
    have hT : cmT ρ lt i = tOffer ρ (numD lt (i + 1) 1) (numD lt (i + 2) 1) (numD lt (i + 3) 1) := by clear hret hw hl M hK hZ hx hb; unfold cmT; rw [if_pos (by omega)]
    have hR : cmR ρ lt i = dOffer ρ (numD lt (i + 1) 1) (numD lt (i + 2) 1) (numD lt (i + 3) 1) := by clear hret hw hl M hK hZ hx hb; unfold cmR; rw [if_pos (by omega)]
    exact hret _ _ _ (b2i (decide (tOffer ρ (numD lt (i + 1) 1) (numD lt (i + 2) 1) (numD lt (i + 3) 1) = 0))) _ _ dX4_doCommand_92 hw (b2i_nar _) rfl ⟨by rw [hT], γa10, by rw [hR]⟩
  · refine x_topN (n := 98) (congrArg nI e_2) ?_
    refine lv_lookup (tgt := 93) hx hb dX4_doCommand_6 (by decide) rfl (by decide) ?_
    have hg : dgN (lt i) = 3 := by rw [e_2]; rfl
    have hdd : ∀ q, q < dgN (lt i) → i + 1 + q < n ∧ 48 ≤ lt (i + 1 + q) ∧ lt (i + 1 + q) ≤ 57 := fun q hq => ⟨(hok q hq).1, okD_d (by omega) (hok q hq) hq⟩
    have hdd0 := hdd 0 (by omega)
    have hdd1 := hdd 1 (by omega)
    have hdd2 := hdd 2 (by omega)
    refine lv_aload_n hx hb dX4_doCommand_93 rfl (lv_at hl 1 rfl) ?_
    refine lv_aload_n hx hb dX4_doCommand_94 rfl (lv_at hl 0 rfl) ?_
    refine lv_iload_n hx hb dX4_doCommand_95 rfl (lv_at hl 2 rfl) ?_
    refine lv_iconst (v := (nI 1)) hx hb dX4_doCommand_96 (by decide) ?_
    refine x_iadd M (n := 1 + i) dX4_doCommand_97 (by omega) ?_
    refine x_topN (n := (i + 1)) (congrArg nI (by omega)) ?_
    refine lv_iconst (v := (nI 2)) hx hb dX4_doCommand_98 (by decide) ?_
    refine x_cVI (As := [.int (nI (i + 1)), .int (nI 2)]) (k_X4_number l G Y tz n lt (i + 1) 2 (by omega) (by omega) (by omega) (by omega) (fun q hq => by have := (hdd (0 + q) (by omega)).2; rw [show i + 1 + (0 + q) = i + 1 + q by omega] at this; exact this)) cw_X4_35 [0] 0 0 M hK hZ hw hl.1 rfl (by decide) rfl rfl rfl ⟨by decide, by decide⟩ ⟨Nat.zero_le _, Nat.zero_le _⟩ rfl rfl (Nat.le_of_ble_eq_true rfl) dX4_doCommand_99 (fun r sg h_11 H locs hw => ?_)
    obtain ⟨rfl, rfl⟩ := h_11
    have hw : xW G A s.heap [txtW Y tz lt n, aucW Y h ρ γ] H locs := hw
    have hn9_12 : numD lt (i + 1) 2 ≤ 999 := numD_le (fun q hq => by have := (hdd (0 + q) (by omega)).2.2; rw [show i + 1 + (0 + q) = i + 1 + q by omega] at this; exact this) (by decide)
    refine lv_aload_n hx hb dX4_doCommand_102 rfl (lv_at hl 0 rfl) ?_
    refine lv_iload_n hx hb dX4_doCommand_103 rfl (lv_at hl 2 rfl) ?_
    refine lv_iconst (v := (nI 3)) hx hb dX4_doCommand_104 (by decide) ?_
    refine x_iadd M (n := 3 + i) dX4_doCommand_105 (by omega) ?_
    refine x_topN (n := (i + 3)) (congrArg nI (by omega)) ?_
    refine lv_iconst (v := (nI 1)) hx hb dX4_doCommand_106 (by decide) ?_
    refine x_cVI (As := [.int (nI (i + 3)), .int (nI 1)]) (k_X4_number l G Y tz n lt (i + 3) 1 (by omega) (by omega) (by omega) (by omega) (fun q hq => by have := (hdd (2 + q) (by omega)).2; rw [show i + 1 + (2 + q) = i + 3 + q by omega] at this; exact this)) cw_X4_35 [0] 0 0 M hK hZ hw hl.1 rfl (by decide) rfl rfl rfl ⟨by decide, by decide⟩ ⟨Nat.zero_le _, Nat.zero_le _⟩ rfl rfl (Nat.le_of_ble_eq_true rfl) dX4_doCommand_107 (fun r sg h_13 H locs hw => ?_)
    obtain ⟨rfl, rfl⟩ := h_13
    have hw : xW G A s.heap [txtW Y tz lt n, aucW Y h ρ γ] H locs := hw
    have hn9_14 : numD lt (i + 3) 1 ≤ 999 := numD_le (fun q hq => by have := (hdd (2 + q) (by omega)).2.2; rw [show i + 1 + (2 + q) = i + 3 + q by omega] at this; exact this) (by decide)
    refine x_cVI (As := [.int (nI (numD lt (i + 1) 2)), .int (nI (numD lt (i + 3) 1))]) (k_X1_tryJoin l G Y h (numD lt (i + 1) 2) (numD lt (i + 3) 1) ρ γ (hI) (by omega) (by omega)) cw_X4_45 [1] 1 0 M hK hZ hw hl.1 rfl (by decide) rfl rfl rfl ⟨by decide, by decide⟩ ⟨Nat.zero_le _, Nat.zero_le _⟩ rfl rfl (Nat.le_of_ble_eq_true rfl) dX4_doCommand_110 (fun r sg h_15 H locs hw => ?_)
    obtain ⟨rfl, γa16, rfl⟩ := h_15
    have hw : xW G A s.heap [txtW Y tz lt n, aucW Y h (dJoin ρ (numD lt (i + 1) 2) (numD lt (i + 3) 1)) γa16] H locs := hw
    have hT : cmT ρ lt i = tJoin ρ (numD lt (i + 1) 2) (numD lt (i + 3) 1) := by clear hret hw hl M hK hZ hx hb; unfold cmT; rw [if_neg (by omega), if_pos (by omega)]
    have hR : cmR ρ lt i = dJoin ρ (numD lt (i + 1) 2) (numD lt (i + 3) 1) := by clear hret hw hl M hK hZ hx hb; unfold cmR; rw [if_neg (by omega), if_pos (by omega)]
    exact hret _ _ _ (b2i (decide (tJoin ρ (numD lt (i + 1) 2) (numD lt (i + 3) 1) = 0))) _ _ dX4_doCommand_113 hw (b2i_nar _) rfl ⟨by rw [hT], γa16, by rw [hR]⟩
  · refine x_topN (n := 118) (congrArg nI e_2) ?_
    refine lv_lookup (tgt := 114) hx hb dX4_doCommand_6 (by decide) rfl (by decide) ?_
    have hg : dgN (lt i) = 5 := by rw [e_2]; rfl
    have hdd : ∀ q, q < dgN (lt i) → i + 1 + q < n ∧ 48 ≤ lt (i + 1 + q) ∧ lt (i + 1 + q) ≤ 57 := fun q hq => ⟨(hok q hq).1, okD_d (by omega) (hok q hq) hq⟩
    have hdd0 := hdd 0 (by omega)
    have hdd1 := hdd 1 (by omega)
    have hdd2 := hdd 2 (by omega)
    have hdd3 := hdd 3 (by omega)
    have hdd4 := hdd 4 (by omega)
    refine lv_aload_n hx hb dX4_doCommand_114 rfl (lv_at hl 1 rfl) ?_
    refine lv_aload_n hx hb dX4_doCommand_115 rfl (lv_at hl 0 rfl) ?_
    refine lv_iload_n hx hb dX4_doCommand_116 rfl (lv_at hl 2 rfl) ?_
    refine lv_iconst (v := (nI 1)) hx hb dX4_doCommand_117 (by decide) ?_
    refine x_iadd M (n := 1 + i) dX4_doCommand_118 (by omega) ?_
    refine x_topN (n := (i + 1)) (congrArg nI (by omega)) ?_
    refine lv_iconst (v := (nI 1)) hx hb dX4_doCommand_119 (by decide) ?_
    refine x_cVI (As := [.int (nI (i + 1)), .int (nI 1)]) (k_X4_number l G Y tz n lt (i + 1) 1 (by omega) (by omega) (by omega) (by omega) (fun q hq => by have := (hdd (0 + q) (by omega)).2; rw [show i + 1 + (0 + q) = i + 1 + q by omega] at this; exact this)) cw_X4_35 [0] 0 0 M hK hZ hw hl.1 rfl (by decide) rfl rfl rfl ⟨by decide, by decide⟩ ⟨Nat.zero_le _, Nat.zero_le _⟩ rfl rfl (Nat.le_of_ble_eq_true rfl) dX4_doCommand_120 (fun r sg h_17 H locs hw => ?_)
    obtain ⟨rfl, rfl⟩ := h_17
    have hw : xW G A s.heap [txtW Y tz lt n, aucW Y h ρ γ] H locs := hw
    have hn9_18 : numD lt (i + 1) 1 ≤ 999 := numD_le (fun q hq => by have := (hdd (0 + q) (by omega)).2.2; rw [show i + 1 + (0 + q) = i + 1 + q by omega] at this; exact this) (by decide)
    refine lv_aload_n hx hb dX4_doCommand_123 rfl (lv_at hl 0 rfl) ?_
    refine lv_iload_n hx hb dX4_doCommand_124 rfl (lv_at hl 2 rfl) ?_
    refine lv_iconst (v := (nI 2)) hx hb dX4_doCommand_125 (by decide) ?_
    refine x_iadd M (n := 2 + i) dX4_doCommand_126 (by omega) ?_
    refine x_topN (n := (i + 2)) (congrArg nI (by omega)) ?_
    refine lv_iconst (v := (nI 1)) hx hb dX4_doCommand_127 (by decide) ?_
    refine x_cVI (As := [.int (nI (i + 2)), .int (nI 1)]) (k_X4_number l G Y tz n lt (i + 2) 1 (by omega) (by omega) (by omega) (by omega) (fun q hq => by have := (hdd (1 + q) (by omega)).2; rw [show i + 1 + (1 + q) = i + 2 + q by omega] at this; exact this)) cw_X4_35 [0] 0 0 M hK hZ hw hl.1 rfl (by decide) rfl rfl rfl ⟨by decide, by decide⟩ ⟨Nat.zero_le _, Nat.zero_le _⟩ rfl rfl (Nat.le_of_ble_eq_true rfl) dX4_doCommand_128 (fun r sg h_19 H locs hw => ?_)
    obtain ⟨rfl, rfl⟩ := h_19
    have hw : xW G A s.heap [txtW Y tz lt n, aucW Y h ρ γ] H locs := hw
    have hn9_20 : numD lt (i + 2) 1 ≤ 999 := numD_le (fun q hq => by have := (hdd (1 + q) (by omega)).2.2; rw [show i + 1 + (1 + q) = i + 2 + q by omega] at this; exact this) (by decide)
    refine lv_aload_n hx hb dX4_doCommand_131 rfl (lv_at hl 0 rfl) ?_
    refine lv_iload_n hx hb dX4_doCommand_132 rfl (lv_at hl 2 rfl) ?_
    refine lv_iconst (v := (nI 3)) hx hb dX4_doCommand_133 (by decide) ?_
    refine x_iadd M (n := 3 + i) dX4_doCommand_134 (by omega) ?_
    refine x_topN (n := (i + 3)) (congrArg nI (by omega)) ?_
    refine lv_iconst (v := (nI 3)) hx hb dX4_doCommand_135 (by decide) ?_
    refine x_cVI (As := [.int (nI (i + 3)), .int (nI 3)]) (k_X4_number l G Y tz n lt (i + 3) 3 (by omega) (by omega) (by omega) (by omega) (fun q hq => by have := (hdd (2 + q) (by omega)).2; rw [show i + 1 + (2 + q) = i + 3 + q by omega] at this; exact this)) cw_X4_35 [0] 0 0 M hK hZ hw hl.1 rfl (by decide) rfl rfl rfl ⟨by decide, by decide⟩ ⟨Nat.zero_le _, Nat.zero_le _⟩ rfl rfl (Nat.le_of_ble_eq_true rfl) dX4_doCommand_136 (fun r sg h_21 H locs hw => ?_)
    obtain ⟨rfl, rfl⟩ := h_21
    have hw : xW G A s.heap [txtW Y tz lt n, aucW Y h ρ γ] H locs := hw
    have hn9_22 : numD lt (i + 3) 3 ≤ 999 := numD_le (fun q hq => by have := (hdd (2 + q) (by omega)).2.2; rw [show i + 1 + (2 + q) = i + 3 + q by omega] at this; exact this) (by decide)
    refine x_cVI (As := [.int (nI (numD lt (i + 1) 1)), .int (nI (numD lt (i + 2) 1)), .int (nI (numD lt (i + 3) 3))]) (k_X1_tryValue l G Y h (numD lt (i + 1) 1) (numD lt (i + 2) 1) (numD lt (i + 3) 3) ρ γ (hI) (by omega) (by omega) (by omega)) cw_X4_49 [1] 1 0 M hK hZ hw hl.1 rfl (by decide) rfl rfl rfl ⟨by decide, by decide⟩ ⟨Nat.zero_le _, Nat.zero_le _⟩ rfl rfl (Nat.le_of_ble_eq_true rfl) dX4_doCommand_139 (fun r sg h_23 H locs hw => ?_)
    obtain ⟨rfl, γa24, rfl⟩ := h_23
    have hw : xW G A s.heap [txtW Y tz lt n, aucW Y h (dVal ρ (numD lt (i + 1) 1) (numD lt (i + 2) 1) (numD lt (i + 3) 3)) γa24] H locs := hw
    have hT : cmT ρ lt i = tVal ρ (numD lt (i + 1) 1) (numD lt (i + 2) 1) (numD lt (i + 3) 3) := by clear hret hw hl M hK hZ hx hb; unfold cmT; rw [if_neg (by omega), if_neg (by omega), if_pos (by omega)]
    have hR : cmR ρ lt i = dVal ρ (numD lt (i + 1) 1) (numD lt (i + 2) 1) (numD lt (i + 3) 3) := by clear hret hw hl M hK hZ hx hb; unfold cmR; rw [if_neg (by omega), if_neg (by omega), if_pos (by omega)]
    exact hret _ _ _ (b2i (decide (tVal ρ (numD lt (i + 1) 1) (numD lt (i + 2) 1) (numD lt (i + 3) 3) = 0))) _ _ dX4_doCommand_142 hw (b2i_nar _) rfl ⟨by rw [hT], γa24, by rw [hR]⟩
  · refine x_topN (n := 113) (congrArg nI e_2) ?_
    refine lv_lookup (tgt := 143) hx hb dX4_doCommand_6 (by decide) rfl (by decide) ?_
    have hg : dgN (lt i) = 3 := by rw [e_2]; rfl
    have hdd : ∀ q, q < dgN (lt i) → i + 1 + q < n ∧ 48 ≤ lt (i + 1 + q) ∧ lt (i + 1 + q) ≤ 57 := fun q hq => ⟨(hok q hq).1, okD_d (by omega) (hok q hq) hq⟩
    have hdd0 := hdd 0 (by omega)
    have hdd1 := hdd 1 (by omega)
    have hdd2 := hdd 2 (by omega)
    refine lv_aload_n hx hb dX4_doCommand_143 rfl (lv_at hl 1 rfl) ?_
    refine lv_aload_n hx hb dX4_doCommand_144 rfl (lv_at hl 0 rfl) ?_
    refine lv_iload_n hx hb dX4_doCommand_145 rfl (lv_at hl 2 rfl) ?_
    refine lv_iconst (v := (nI 1)) hx hb dX4_doCommand_146 (by decide) ?_
    refine x_iadd M (n := 1 + i) dX4_doCommand_147 (by omega) ?_
    refine x_topN (n := (i + 1)) (congrArg nI (by omega)) ?_
    refine lv_iconst (v := (nI 1)) hx hb dX4_doCommand_148 (by decide) ?_
    refine x_cVI (As := [.int (nI (i + 1)), .int (nI 1)]) (k_X4_number l G Y tz n lt (i + 1) 1 (by omega) (by omega) (by omega) (by omega) (fun q hq => by have := (hdd (0 + q) (by omega)).2; rw [show i + 1 + (0 + q) = i + 1 + q by omega] at this; exact this)) cw_X4_35 [0] 0 0 M hK hZ hw hl.1 rfl (by decide) rfl rfl rfl ⟨by decide, by decide⟩ ⟨Nat.zero_le _, Nat.zero_le _⟩ rfl rfl (Nat.le_of_ble_eq_true rfl) dX4_doCommand_149 (fun r sg h_25 H locs hw => ?_)
    obtain ⟨rfl, rfl⟩ := h_25
    have hw : xW G A s.heap [txtW Y tz lt n, aucW Y h ρ γ] H locs := hw
    have hn9_26 : numD lt (i + 1) 1 ≤ 999 := numD_le (fun q hq => by have := (hdd (0 + q) (by omega)).2.2; rw [show i + 1 + (0 + q) = i + 1 + q by omega] at this; exact this) (by decide)
    refine lv_aload_n hx hb dX4_doCommand_152 rfl (lv_at hl 0 rfl) ?_
    refine lv_iload_n hx hb dX4_doCommand_153 rfl (lv_at hl 2 rfl) ?_
    refine lv_iconst (v := (nI 2)) hx hb dX4_doCommand_154 (by decide) ?_
    refine x_iadd M (n := 2 + i) dX4_doCommand_155 (by omega) ?_
    refine x_topN (n := (i + 2)) (congrArg nI (by omega)) ?_
    refine lv_iconst (v := (nI 1)) hx hb dX4_doCommand_156 (by decide) ?_
    refine x_cVI (As := [.int (nI (i + 2)), .int (nI 1)]) (k_X4_number l G Y tz n lt (i + 2) 1 (by omega) (by omega) (by omega) (by omega) (fun q hq => by have := (hdd (1 + q) (by omega)).2; rw [show i + 1 + (1 + q) = i + 2 + q by omega] at this; exact this)) cw_X4_35 [0] 0 0 M hK hZ hw hl.1 rfl (by decide) rfl rfl rfl ⟨by decide, by decide⟩ ⟨Nat.zero_le _, Nat.zero_le _⟩ rfl rfl (Nat.le_of_ble_eq_true rfl) dX4_doCommand_157 (fun r sg h_27 H locs hw => ?_)
    obtain ⟨rfl, rfl⟩ := h_27
    have hw : xW G A s.heap [txtW Y tz lt n, aucW Y h ρ γ] H locs := hw
    have hn9_28 : numD lt (i + 2) 1 ≤ 999 := numD_le (fun q hq => by have := (hdd (1 + q) (by omega)).2.2; rw [show i + 1 + (1 + q) = i + 2 + q by omega] at this; exact this) (by decide)
    refine lv_aload_n hx hb dX4_doCommand_160 rfl (lv_at hl 0 rfl) ?_
    refine lv_iload_n hx hb dX4_doCommand_161 rfl (lv_at hl 2 rfl) ?_
    refine lv_iconst (v := (nI 3)) hx hb dX4_doCommand_162 (by decide) ?_
    refine x_iadd M (n := 3 + i) dX4_doCommand_163 (by omega) ?_
    refine x_topN (n := (i + 3)) (congrArg nI (by omega)) ?_
    refine lv_iconst (v := (nI 1)) hx hb dX4_doCommand_164 (by decide) ?_
    refine x_cVI (As := [.int (nI (i + 3)), .int (nI 1)]) (k_X4_number l G Y tz n lt (i + 3) 1 (by omega) (by omega) (by omega) (by omega) (fun q hq => by have := (hdd (2 + q) (by omega)).2; rw [show i + 1 + (2 + q) = i + 3 + q by omega] at this; exact this)) cw_X4_35 [0] 0 0 M hK hZ hw hl.1 rfl (by decide) rfl rfl rfl ⟨by decide, by decide⟩ ⟨Nat.zero_le _, Nat.zero_le _⟩ rfl rfl (Nat.le_of_ble_eq_true rfl) dX4_doCommand_165 (fun r sg h_29 H locs hw => ?_)
    obtain ⟨rfl, rfl⟩ := h_29
    have hw : xW G A s.heap [txtW Y tz lt n, aucW Y h ρ γ] H locs := hw
    have hn9_30 : numD lt (i + 3) 1 ≤ 999 := numD_le (fun q hq => by have := (hdd (2 + q) (by omega)).2.2; rw [show i + 1 + (2 + q) = i + 3 + q by omega] at this; exact this) (by decide)
    refine x_cVI (As := [.int (nI (numD lt (i + 1) 1)), .int (nI (numD lt (i + 2) 1)), .int (nI (numD lt (i + 3) 1))]) (k_X1_tryAsk l G Y h (numD lt (i + 1) 1) (numD lt (i + 2) 1) (numD lt (i + 3) 1) ρ γ (hI) (by omega) (by omega) (by omega)) cw_X4_52 [1] 1 0 M hK hZ hw hl.1 rfl (by decide) rfl rfl rfl ⟨by decide, by decide⟩ ⟨Nat.zero_le _, Nat.zero_le _⟩ rfl rfl (Nat.le_of_ble_eq_true rfl) dX4_doCommand_168 (fun r sg h_31 H locs hw => ?_)
    obtain ⟨rfl, γa32, rfl⟩ := h_31
    have hw : xW G A s.heap [txtW Y tz lt n, aucW Y h (dAsk ρ (numD lt (i + 1) 1) (numD lt (i + 2) 1) (numD lt (i + 3) 1)) γa32] H locs := hw
    have hT : cmT ρ lt i = tAsk ρ (numD lt (i + 1) 1) (numD lt (i + 2) 1) (numD lt (i + 3) 1) := by clear hret hw hl M hK hZ hx hb; unfold cmT; rw [if_neg (by omega), if_neg (by omega), if_neg (by omega), if_pos (by omega)]
    have hR : cmR ρ lt i = dAsk ρ (numD lt (i + 1) 1) (numD lt (i + 2) 1) (numD lt (i + 3) 1) := by clear hret hw hl M hK hZ hx hb; unfold cmR; rw [if_neg (by omega), if_neg (by omega), if_neg (by omega), if_pos (by omega)]
    exact hret _ _ _ (b2i (decide (tAsk ρ (numD lt (i + 1) 1) (numD lt (i + 2) 1) (numD lt (i + 3) 1) = 0))) _ _ dX4_doCommand_171 hw (b2i_nar _) rfl ⟨by rw [hT], γa32, by rw [hR]⟩
  · refine x_topN (n := 119) (congrArg nI e_2) ?_
    refine lv_lookup (tgt := 172) hx hb dX4_doCommand_6 (by decide) rfl (by decide) ?_
    have hg : dgN (lt i) = 1 := by rw [e_2]; rfl
    have hdd : ∀ q, q < dgN (lt i) → i + 1 + q < n ∧ 48 ≤ lt (i + 1 + q) ∧ lt (i + 1 + q) ≤ 57 := fun q hq => ⟨(hok q hq).1, okD_d (by omega) (hok q hq) hq⟩
    have hdd0 := hdd 0 (by omega)
    refine lv_aload_n hx hb dX4_doCommand_172 rfl (lv_at hl 1 rfl) ?_
    refine lv_aload_n hx hb dX4_doCommand_173 rfl (lv_at hl 0 rfl) ?_
    refine lv_iload_n hx hb dX4_doCommand_174 rfl (lv_at hl 2 rfl) ?_
    refine lv_iconst (v := (nI 1)) hx hb dX4_doCommand_175 (by decide) ?_
    refine x_iadd M (n := 1 + i) dX4_doCommand_176 (by omega) ?_
    refine x_topN (n := (i + 1)) (congrArg nI (by omega)) ?_
    refine lv_iconst (v := (nI 1)) hx hb dX4_doCommand_177 (by decide) ?_
    refine x_cVI (As := [.int (nI (i + 1)), .int (nI 1)]) (k_X4_number l G Y tz n lt (i + 1) 1 (by omega) (by omega) (by omega) (by omega) (fun q hq => by have := (hdd (0 + q) (by omega)).2; rw [show i + 1 + (0 + q) = i + 1 + q by omega] at this; exact this)) cw_X4_35 [0] 0 0 M hK hZ hw hl.1 rfl (by decide) rfl rfl rfl ⟨by decide, by decide⟩ ⟨Nat.zero_le _, Nat.zero_le _⟩ rfl rfl (Nat.le_of_ble_eq_true rfl) dX4_doCommand_178 (fun r sg h_33 H locs hw => ?_)
    obtain ⟨rfl, rfl⟩ := h_33
    have hw : xW G A s.heap [txtW Y tz lt n, aucW Y h ρ γ] H locs := hw
    have hn9_34 : numD lt (i + 1) 1 ≤ 999 := numD_le (fun q hq => by have := (hdd (0 + q) (by omega)).2.2; rw [show i + 1 + (0 + q) = i + 1 + q by omega] at this; exact this) (by decide)
    refine x_cVI (As := [.int (nI (numD lt (i + 1) 1))]) (k_X1_tryBid l G Y h (numD lt (i + 1) 1) ρ γ (hI) (by omega)) cw_X4_55 [1] 1 0 M hK hZ hw hl.1 rfl (by decide) rfl rfl rfl ⟨by decide, by decide⟩ ⟨Nat.zero_le _, Nat.zero_le _⟩ rfl rfl (Nat.le_of_ble_eq_true rfl) dX4_doCommand_181 (fun r sg h_35 H locs hw => ?_)
    obtain ⟨rfl, γa36, rfl⟩ := h_35
    have hw : xW G A s.heap [txtW Y tz lt n, aucW Y h (dBid ρ (numD lt (i + 1) 1)) γa36] H locs := hw
    have hT : cmT ρ lt i = tBid ρ (numD lt (i + 1) 1) := by clear hret hw hl M hK hZ hx hb; unfold cmT; rw [if_neg (by omega), if_neg (by omega), if_neg (by omega), if_neg (by omega), if_pos (by omega)]
    have hR : cmR ρ lt i = dBid ρ (numD lt (i + 1) 1) := by clear hret hw hl M hK hZ hx hb; unfold cmR; rw [if_neg (by omega), if_neg (by omega), if_neg (by omega), if_neg (by omega), if_pos (by omega)]
    exact hret _ _ _ (b2i (decide (tBid ρ (numD lt (i + 1) 1) = 0))) _ _ dX4_doCommand_184 hw (b2i_nar _) rfl ⟨by rw [hT], γa36, by rw [hR]⟩
  · refine x_topN (n := 99) (congrArg nI e_2) ?_
    refine lv_lookup (tgt := 185) hx hb dX4_doCommand_6 (by decide) rfl (by decide) ?_
    have hg : dgN (lt i) = 0 := by rw [e_2]; rfl
    have hdd : ∀ q, q < dgN (lt i) → i + 1 + q < n ∧ 48 ≤ lt (i + 1 + q) ∧ lt (i + 1 + q) ≤ 57 := fun q hq => ⟨(hok q hq).1, okD_d (by omega) (hok q hq) hq⟩
    refine lv_aload_n hx hb dX4_doCommand_185 rfl (lv_at hl 1 rfl) ?_
    refine x_cVI (As := []) (k_X1_tryClose l G Y h ρ γ (hI)) cw_X4_59 [1] 1 0 M hK hZ hw hl.1 rfl (by decide) rfl rfl rfl ⟨by decide, by decide⟩ ⟨Nat.zero_le _, Nat.zero_le _⟩ rfl rfl (Nat.le_of_ble_eq_true rfl) dX4_doCommand_186 (fun r sg h_37 H locs hw => ?_)
    obtain ⟨rfl, γa38, rfl⟩ := h_37
    have hw : xW G A s.heap [txtW Y tz lt n, aucW Y h (dClose ρ) γa38] H locs := hw
    have hT : cmT ρ lt i = whyClose ρ := by clear hret hw hl M hK hZ hx hb; unfold cmT; rw [if_neg (by omega), if_neg (by omega), if_neg (by omega), if_neg (by omega), if_neg (by omega)]
    have hR : cmR ρ lt i = dClose ρ := by clear hret hw hl M hK hZ hx hb; unfold cmR; rw [if_neg (by omega), if_neg (by omega), if_neg (by omega), if_neg (by omega), if_neg (by omega)]
    exact hret _ _ _ (b2i (decide (whyClose ρ = 0))) _ _ dX4_doCommand_189 hw (b2i_nar _) rfl ⟨by rw [hT], γa38, by rw [hR]⟩
set_option maxHeartbeats 4000000 in
set_option maxRecDepth 20000 in
theorem k_X4_doCommands (l : Launch) (G : va_G) (Y : Nat → Nat) (tz n : Nat) (lt : Nat → Nat) (h : Nat) (ρ : Nat → Nat) (γ : Nat → Nat → Nat) (hn : n ≤ 120) (hlt : ∀ i, i < 120 → lt i < 256) (hI : Inv ρ) (he : errP lt n = 0) : CtI l yX4_doCommands cX4_doCommands 4 .int 6 138 [.ref tz, .ref h] [txtW Y tz lt n, aucW Y h ρ γ] (fun r sg => r = nI (tR lt n 1 ρ 0).2 ∧ ∃ γ' : Nat → Nat → Nat, sg = [txtW Y tz lt n, aucW Y h (tR lt n 1 ρ 0).1 γ']) G Y := by
  refine x_ofI (by decide) (Nat.le_of_ble_eq_true rfl) (fun p e s m args below meth c A ls Q M hK hZ hw hl hret => ?_)
  obtain ⟨hx, hb, -⟩ := id M
  have hl : lv_has ls 4 [(0, .ref tz), (1, .ref h)] := hl
  have hne : ¬ (n = 0 ∨ lt 0 ≠ 76) := fun z => by unfold errP at he; rw [if_pos z] at he; exact absurd he (by decide)
  have herr : errP lt n = tE lt n 1 := by unfold errP; rw [if_neg hne]
  refine lv_iconst (v := (nI 0)) hx hb dX4_doCommands_0 (by decide) ?_
  refine lv_istore_n (lv' := [(2, .int (nI 0)), (0, .ref tz), (1, .ref h)]) hx hb dX4_doCommands_1 rfl hl (by decide) rfl (fun ls hl => ?_)
  refine lv_iconst (v := (nI 1)) hx hb dX4_doCommands_2 (by decide) ?_
  refine lv_istore_n (lv' := [(3, .int (nI 1)), (2, .int (nI 0)), (0, .ref tz), (1, .ref h)]) hx hb dX4_doCommands_3 rfl hl (by decide) rfl (fun ls hl => ?_)
  have L4 : ∀ (fu : Nat) (at1 : Nat) (σ : Nat → Nat) (o1 : Nat) (γs : Nat → Nat → Nat), (1 + n - at1 < fu) → (1 ≤ at1) → (at1 ≤ n) → (tE lt n at1 = 0) → (tR lt n 1 ρ 0 = tR lt n at1 σ o1) → (Inv σ) → (o1 ≤ at1) → ∀ (H : Heap) (locs : List Loc), xW G A s.heap [txtW Y tz lt n, aucW Y h σ γs] H locs → ∀ (ls : Array Slot), lv_has ls 4 [(0, .ref tz), (1, .ref h), (2, .int (nI o1)), (3, .int (nI at1))] → W p l e (xRm 6 138) s m args below meth c H locs 0 0 Q (F0 m 4 ls []) := by
    intro fu
    induction fu with
    | zero => intro at1 σ o1 γs hm; exact absurd hm (Nat.not_lt_zero _)
    | succ fu ih4 =>
      intro at1 σ o1 γs hm hat hat2 hte htr hIs ho1 H locs hw ls hl
      refine lv_iload_n hx hb dX4_doCommands_4 rfl (lv_at hl 3 rfl) ?_
      refine lv_aload_n hx hb dX4_doCommands_5 rfl (lv_at hl 0 rfl) ?_
      refine x_get M hK hw 0 0 rfl rfl ff_X4_15 rfl dX4_doCommands_6 ?_
      refine x_cge M (tgt := 41) (by omega) (by omega) dX4_doCommands_9 (by decide) (fun c_1 => ?_) (fun c_1 => ?_)
      · refine lv_iload_n hx hb dX4_doCommands_41 rfl (lv_at hl 2 rfl) ?_
        exact hret _ _ _ (nI o1) _ _ dX4_doCommands_42 hw rfl rfl ⟨by rw [htr, tR_end (by omega)], γs, by rw [htr, tR_end (by omega)]⟩
      have hz := tE_z (by omega) hte
      have hd5 := dgN_le (ch := lt at1)
      have hend : 1 + at1 + dgN (lt at1) ≤ n := by rcases Nat.eq_zero_or_pos (dgN (lt at1)) with hz0 | hz0; omega; (have := (hz.2 (dgN (lt at1) - 1) (by omega)).1; omega)
      refine lv_aload_n hx hb dX4_doCommands_12 rfl (lv_at hl 0 rfl) ?_
      refine lv_aload_n hx hb dX4_doCommands_13 rfl (lv_at hl 1 rfl) ?_
      refine lv_iload_n hx hb dX4_doCommands_14 rfl (lv_at hl 3 rfl) ?_
      refine x_cVI (As := [.ref h, .int (nI at1)]) (k_X4_doCommand l G Y tz n lt h at1 σ γs (by omega) (by omega) (hIs) (by omega) (hz.1) (hz.2)) cw_X4_31 [0, 1] 0 0 M hK hZ hw hl.1 rfl (by decide) rfl rfl rfl ⟨by decide, by decide⟩ ⟨Nat.zero_le _, Nat.zero_le _⟩ rfl rfl (Nat.le_of_ble_eq_true rfl) dX4_doCommands_15 (fun r sg h_2 H locs hw => ?_)
      obtain ⟨rfl, γa3, rfl⟩ := h_2
      have hw : xW G A s.heap [txtW Y tz lt n, aucW Y h (cmR σ lt at1) γa3] H locs := hw
      refine x_bne M (tgt := 24) dX4_doCommands_18 (by decide) (fun c_4 => ?_) (fun c_4 => ?_)
      · refine lv_iload_n hx hb dX4_doCommands_24 rfl (lv_at hl 3 rfl) ?_
        refine lv_iconst (v := (nI 1)) hx hb dX4_doCommands_25 (by decide) ?_
        refine lv_aload_n hx hb dX4_doCommands_26 rfl (lv_at hl 0 rfl) ?_
        refine x_get M hK hw 0 0 rfl rfl ff_X4_9 rfl dX4_doCommands_27 ?_
        refine lv_iload_n hx hb dX4_doCommands_30 rfl (lv_at hl 3 rfl) ?_
        refine x_cald M hK hw 0 1 rfl rfl (by omega) (by decide) dX4_doCommands_31 ?_
        refine x_topN (n := lt at1) rfl ?_
        have q_5 : lt at1 < 256 := hlt at1 (by omega)
        refine x_cSI (As := [.int (nI (lt at1))]) (k_X4_digitsOf l G Y (lt at1) (by omega)) cw_X4_23 [] M hK hZ hw hl.1 rfl (by decide) ⟨by decide, by decide⟩ ⟨Nat.zero_le _, Nat.zero_le _⟩ rfl rfl (Nat.le_of_ble_eq_true rfl) dX4_doCommands_32 (fun r sg h_6 H locs hw => ?_)
        obtain ⟨rfl, rfl⟩ := h_6
        have hw : xW G A s.heap [txtW Y tz lt n, aucW Y h (cmR σ lt at1) γa3] H locs := hw
        refine x_iadd M (n := 1 + dgN (lt at1)) dX4_doCommands_35 rfl ?_
        refine x_iadd M (n := 1 + at1 + dgN (lt at1)) dX4_doCommands_36 (by omega) ?_
        refine lv_istore_n (lv' := [(3, .int (nI (1 + at1 + dgN (lt at1)))), (0, .ref tz), (1, .ref h), (2, .int (nI o1))]) hx hb dX4_doCommands_37 rfl hl (by decide) rfl (fun ls hl => ?_)
        refine lv_goto (tgt := 4) hx hb dX4_doCommands_38 (by decide) ?_
        exact ih4 (1 + at1 + dgN (lt at1)) (cmR σ lt at1) o1 γa3 (by omega) (by omega) (hend) (by rw [show 1 + at1 + dgN (lt at1) = at1 + 1 + dgN (lt at1) by omega, ← tE_next (by omega) hz.1 hz.2]; exact hte) (by rw [htr, tR_next (by omega)]; unfold cmO; rw [if_pos (of_decide_eq_true c_4)]; (first | rfl | (congr 1 <;> omega))) (Inv_cmR hIs) (by omega) _ _ hw _ (lv_sub hl [1, 2, 3, 0] rfl)
      refine lv_iinc (v := (nI (1 + o1))) (lv' := [(2, .int (nI (1 + o1))), (0, .ref tz), (1, .ref h), (3, .int (nI at1))]) hx hb dX4_doCommands_21 hl (k := 2) rfl (by rw [show (1 : Int) = ((1 : Nat) : Int) from rfl, nI_inc]; exact congrArg nI (by omega)) (by decide) rfl (fun ls hl => ?_)
      refine lv_iload_n hx hb dX4_doCommands_24 rfl (lv_at hl 3 rfl) ?_
      refine lv_iconst (v := (nI 1)) hx hb dX4_doCommands_25 (by decide) ?_
      refine lv_aload_n hx hb dX4_doCommands_26 rfl (lv_at hl 1 rfl) ?_
      refine x_get M hK hw 0 0 rfl rfl ff_X4_9 rfl dX4_doCommands_27 ?_
      refine lv_iload_n hx hb dX4_doCommands_30 rfl (lv_at hl 3 rfl) ?_
      refine x_cald M hK hw 0 1 rfl rfl (by omega) (by decide) dX4_doCommands_31 ?_
      refine x_topN (n := lt at1) rfl ?_
      have q_7 : lt at1 < 256 := hlt at1 (by omega)
      refine x_cSI (As := [.int (nI (lt at1))]) (k_X4_digitsOf l G Y (lt at1) (by omega)) cw_X4_23 [] M hK hZ hw hl.1 rfl (by decide) ⟨by decide, by decide⟩ ⟨Nat.zero_le _, Nat.zero_le _⟩ rfl rfl (Nat.le_of_ble_eq_true rfl) dX4_doCommands_32 (fun r sg h_8 H locs hw => ?_)
      obtain ⟨rfl, rfl⟩ := h_8
      have hw : xW G A s.heap [txtW Y tz lt n, aucW Y h (cmR σ lt at1) γa3] H locs := hw
      refine x_iadd M (n := 1 + dgN (lt at1)) dX4_doCommands_35 rfl ?_
      refine x_iadd M (n := 1 + at1 + dgN (lt at1)) dX4_doCommands_36 (by omega) ?_
      refine lv_istore_n (lv' := [(3, .int (nI (1 + at1 + dgN (lt at1)))), (2, .int (nI (1 + o1))), (0, .ref tz), (1, .ref h)]) hx hb dX4_doCommands_37 rfl hl (by decide) rfl (fun ls hl => ?_)
      refine lv_goto (tgt := 4) hx hb dX4_doCommands_38 (by decide) ?_
      exact ih4 (1 + at1 + dgN (lt at1)) (cmR σ lt at1) (1 + o1) γa3 (by omega) (by omega) (hend) (by rw [show 1 + at1 + dgN (lt at1) = at1 + 1 + dgN (lt at1) by omega, ← tE_next (by omega) hz.1 hz.2]; exact hte) (by rw [htr, tR_next (by omega)]; unfold cmO; rw [if_neg (of_decide_eq_false c_4)]; (first | rfl | (congr 1 <;> omega))) (Inv_cmR hIs) (by omega) _ _ hw _ (lv_sub hl [2, 3, 1, 0] rfl)
  exact L4 (1 + n - 1 + 1) 1 ρ 0 γ (Nat.lt_succ_self _) (by omega) (by omega) (by rw [← herr]; exact he) (rfl) (hI) (by omega) _ _ hw _ (lv_sub hl [2, 3, 1, 0] rfl)
