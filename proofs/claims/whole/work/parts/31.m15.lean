theorem mw_nI {a b : Nat} (ha : a < 2 ^ 30) (hb : b < 2 ^ 31) : mw b = nI a ↔ b = a + 1 := by rw [eq_comm]; exact nI_mw ha hb
set_option maxHeartbeats 4000000 in
set_option maxRecDepth 20000 in
theorem k_X0_find (l : Launch) (G : va_G) (Y : Nat → Nat) (z h : Nat) (lf : Nat → Nat) (tk bt : Nat → Int32) (bw : Int32) (ρ : Nat → Nat) (γ : Nat → Nat → Nat) (w mq : Nat) (hI : Inv ρ) (hw6 : w ≤ 6) (hm6 : mq ≤ 3) : CtI l yX0_find cX0_find 5 .int 15 413 [.ref z, .ref h, .int (mw w), .int (mw mq)] [asgW Y z lf tk bt bw, aucW Y h ρ γ] (fun r sg => r = nI (worA ρ w mq) ∧ ∃ (lf' : Nat → Nat) (tk' bt' : Nat → Int32), (∀ q, q < ρ 4 → bt' q = mw (choA ρ w mq q)) ∧ sg = [asgW Y z lf' tk' bt' (nI (worA ρ w mq)), aucW Y h ρ γ]) G Y := by
  refine x_ofI (by decide) (Nat.le_of_ble_eq_true rfl) (fun p e s m args below meth c A ls Q M hK hZ hw hl hret => ?_)
  obtain ⟨hx, hb, -⟩ := id M
  have hl : lv_has ls 5 [(0, .ref z), (1, .ref h), (2, .int (mw w)), (3, .int (mw mq))] := hl
  have := hI.n6
  have := hI.over
  have := hI.keep
  have := hI.stepp
  refine lv_iconst (v := (nI 0)) hx hb dX0_find_0 (by decide) ?_
  refine lv_istore (lv' := [(4, .int (nI 0)), (0, .ref z), (1, .ref h), (2, .int (mw w)), (3, .int (mw mq))]) hx hb dX0_find_1 hl (by decide) rfl (fun ls hl => ?_)
  refine lv_iload hx hb dX0_find_3 (lv_at hl 0 rfl) ?_
  refine lv_iconst (v := (nI 3)) hx hb dX0_find_5 (by decide) ?_
  refine x_cge M (tgt := 41) (by decide) (by decide) dX0_find_6 (by decide) (fun c_1 => absurd c_1 (by decide)) (fun c_1 => ?_)
  refine lv_aload_n hx hb dX0_find_9 rfl (lv_at hl 1 rfl) ?_
  refine x_get M hK hw 0 0 rfl rfl ff_X0_9 rfl dX0_find_10 ?_
  refine lv_iload hx hb dX0_find_13 (lv_at hl 0 rfl) ?_
  refine lv_aload_n hx hb dX0_find_15 rfl (lv_at hl 2 rfl) ?_
  refine x_get M hK hw 1 0 rfl rfl ff_X0_21 rfl dX0_find_16 ?_
  refine lv_iload hx hb dX0_find_19 (lv_at hl 0 rfl) ?_
  refine x_iald M hK hw 1 1 rfl rfl (by decide) (by decide) dX0_find_21 ?_
  refine x_topN (n := ρ 5) rfl ?_
  have q_2 : 1 ≤ ρ 5 := (hI.sup (q := 5) (k := 0) (by decide) rfl).1
  have q_3 : ρ 5 ≤ 9 := (hI.sup (q := 5) (k := 0) (by decide) rfl).2
  have L33 : ∀ (x0 : Nat), (x0 = if mq = 0 + 1 then 1 else 0) → ∀ (H : Heap) (locs : List Loc), xW G A s.heap [asgW Y z lf tk bt bw, aucW Y h ρ γ] H locs → ∀ (ls : Array Slot), lv_has ls 5 [(0, .ref z), (1, .ref h), (2, .int (mw w)), (3, .int (mw mq)), (4, .int (nI 0))] → W p l e (xRm 15 413) s m args below meth c H locs 0 0 Q (F0 m 33 ls [.int (nI x0), .int (nI (ρ 5)), .int (nI 0), .ref (z + 1)]) := by
    intro x0 hx0 H locs hw ls hl
    have hy0 : x0 ≤ 1 := by rw [hx0]; split <;> decide
    refine x_iadd M (n := ρ 5 + x0) dX0_find_33 rfl ?_
    refine x_iast M hK hw 0 1 rfl rfl (by decide) (by decide) dX0_find_34 (fun H locs hw => ?_)
    rw [upd_row] at hw
    have hw : xW G A s.heap [asgW Y z (setN lf 0 (ρ 5 + x0)) tk bt bw, aucW Y h ρ γ] H locs := hw
    refine lv_iinc (v := (nI 1)) (lv' := [(4, .int (nI 1)), (0, .ref z), (1, .ref h), (2, .int (mw w)), (3, .int (mw mq))]) hx hb dX0_find_35 hl (k := 4) rfl (by decide) (by decide) rfl (fun ls hl => ?_)
    refine lv_goto (tgt := 3) hx hb dX0_find_38 (by decide) ?_
    refine lv_iload hx hb dX0_find_3 (lv_at hl 0 rfl) ?_
    refine lv_iconst (v := (nI 3)) hx hb dX0_find_5 (by decide) ?_
    refine x_cge M (tgt := 41) (by decide) (by decide) dX0_find_6 (by decide) (fun c_4 => absurd c_4 (by decide)) (fun c_4 => ?_)
    refine lv_aload_n hx hb dX0_find_9 rfl (lv_at hl 1 rfl) ?_
    refine x_get M hK hw 0 0 rfl rfl ff_X0_9 rfl dX0_find_10 ?_
    refine lv_iload hx hb dX0_find_13 (lv_at hl 0 rfl) ?_
    refine lv_aload_n hx hb dX0_find_15 rfl (lv_at hl 2 rfl) ?_
    refine x_get M hK hw 1 0 rfl rfl ff_X0_21 rfl dX0_find_16 ?_
    refine lv_iload hx hb dX0_find_19 (lv_at hl 0 rfl) ?_
    refine x_iald M hK hw 1 1 rfl rfl (by decide) (by decide) dX0_find_21 ?_
    refine x_topN (n := ρ 6) rfl ?_
    have q_5 : 1 ≤ ρ 6 := (hI.sup (q := 6) (k := 1) (by decide) rfl).1
    have q_6 : ρ 6 ≤ 9 := (hI.sup (q := 6) (k := 1) (by decide) rfl).2
    have L33 : ∀ (x1 : Nat), (x1 = if mq = 1 + 1 then 1 else 0) → ∀ (H : Heap) (locs : List Loc), xW G A s.heap [asgW Y z (setN lf 0 (ρ 5 + x0)) tk bt bw, aucW Y h ρ γ] H locs → ∀ (ls : Array Slot), lv_has ls 5 [(0, .ref z), (1, .ref h), (2, .int (mw w)), (3, .int (mw mq)), (4, .int (nI 1))] → W p l e (xRm 15 413) s m args below meth c H locs 0 0 Q (F0 m 33 ls [.int (nI x1), .int (nI (ρ 6)), .int (nI 1), .ref (z + 1)]) := by
      intro x1 hx1 H locs hw ls hl
      have hy1 : x1 ≤ 1 := by rw [hx1]; split <;> decide
      refine x_iadd M (n := ρ 6 + x1) dX0_find_33 rfl ?_
      refine x_iast M hK hw 0 1 rfl rfl (by decide) (by decide) dX0_find_34 (fun H locs hw => ?_)
      rw [upd_row] at hw
      have hw : xW G A s.heap [asgW Y z (setN (setN lf 0 (ρ 5 + x0)) 1 (ρ 6 + x1)) tk bt bw, aucW Y h ρ γ] H locs := hw
      refine lv_iinc (v := (nI 2)) (lv' := [(4, .int (nI 2)), (0, .ref z), (1, .ref h), (2, .int (mw w)), (3, .int (mw mq))]) hx hb dX0_find_35 hl (k := 4) rfl (by decide) (by decide) rfl (fun ls hl => ?_)
      refine lv_goto (tgt := 3) hx hb dX0_find_38 (by decide) ?_
      refine lv_iload hx hb dX0_find_3 (lv_at hl 0 rfl) ?_
      refine lv_iconst (v := (nI 3)) hx hb dX0_find_5 (by decide) ?_
      refine x_cge M (tgt := 41) (by decide) (by decide) dX0_find_6 (by decide) (fun c_7 => absurd c_7 (by decide)) (fun c_7 => ?_)
      refine lv_aload_n hx hb dX0_find_9 rfl (lv_at hl 1 rfl) ?_
      refine x_get M hK hw 0 0 rfl rfl ff_X0_9 rfl dX0_find_10 ?_
      refine lv_iload hx hb dX0_find_13 (lv_at hl 0 rfl) ?_
      refine lv_aload_n hx hb dX0_find_15 rfl (lv_at hl 2 rfl) ?_
      refine x_get M hK hw 1 0 rfl rfl ff_X0_21 rfl dX0_find_16 ?_
      refine lv_iload hx hb dX0_find_19 (lv_at hl 0 rfl) ?_
      refine x_iald M hK hw 1 1 rfl rfl (by decide) (by decide) dX0_find_21 ?_
      refine x_topN (n := ρ 7) rfl ?_
      have q_8 : 1 ≤ ρ 7 := (hI.sup (q := 7) (k := 2) (by decide) rfl).1
      have q_9 : ρ 7 ≤ 9 := (hI.sup (q := 7) (k := 2) (by decide) rfl).2
      have L33 : ∀ (x2 : Nat), (x2 = if mq = 2 + 1 then 1 else 0) → ∀ (H : Heap) (locs : List Loc), xW G A s.heap [asgW Y z (setN (setN lf 0 (ρ 5 + x0)) 1 (ρ 6 + x1)) tk bt bw, aucW Y h ρ γ] H locs → ∀ (ls : Array Slot), lv_has ls 5 [(0, .ref z), (1, .ref h), (2, .int (mw w)), (3, .int (mw mq)), (4, .int (nI 2))] → W p l e (xRm 15 413) s m args below meth c H locs 0 0 Q (F0 m 33 ls [.int (nI x2), .int (nI (ρ 7)), .int (nI 2), .ref (z + 1)]) := by
        intro x2 hx2 H locs hw ls hl
        have hy2 : x2 ≤ 1 := by rw [hx2]; split <;> decide
        refine x_iadd M (n := ρ 7 + x2) dX0_find_33 rfl ?_
        refine x_iast M hK hw 0 1 rfl rfl (by decide) (by decide) dX0_find_34 (fun H locs hw => ?_)
        rw [upd_row] at hw
        have hw : xW G A s.heap [asgW Y z (setN (setN (setN lf 0 (ρ 5 + x0)) 1 (ρ 6 + x1)) 2 (ρ 7 + x2)) tk bt bw, aucW Y h ρ γ] H locs := hw
        refine lv_iinc (v := (nI 3)) (lv' := [(4, .int (nI 3)), (0, .ref z), (1, .ref h), (2, .int (mw w)), (3, .int (mw mq))]) hx hb dX0_find_35 hl (k := 4) rfl (by decide) (by decide) rfl (fun ls hl => ?_)
        refine lv_goto (tgt := 3) hx hb dX0_find_38 (by decide) ?_
        refine lv_iload hx hb dX0_find_3 (lv_at hl 0 rfl) ?_
        refine lv_iconst (v := (nI 3)) hx hb dX0_find_5 (by decide) ?_
        refine x_cge M (tgt := 41) (by decide) (by decide) dX0_find_6 (by decide) (fun c_10 => ?_) (fun c_10 => absurd c_10 (by decide))
        have hlk : lfOk ρ mq 0 0 (setN (setN (setN lf 0 (ρ 5 + x0)) 1 (ρ 6 + x1)) 2 (ρ 7 + x2)) := fun k hk => k3 (P := fun k => (setN (setN (setN lf 0 (ρ 5 + x0)) 1 (ρ 6 + x1)) 2 (ρ 7 + x2)) k = rmA ρ mq k - lP ρ k 0 0) hk (by show ρ 5 + x0 = _; rw [hx0]; rfl) (by show ρ 6 + x1 = _; rw [hx1]; rfl) (by show ρ 7 + x2 = _; rw [hx2]; rfl)
        refine lv_aload_n hx hb dX0_find_41 rfl (lv_at hl 1 rfl) ?_
        refine lv_iconst (v := (mw (0, 0).1)) hx hb dX0_find_42 (by decide) ?_
        refine x_put M hK hw 0 0 rfl rfl fp_X0_26 rfl rfl (Nat.le_of_ble_eq_true rfl) dX0_find_43 (fun H locs hw => ?_)
        have hw : xW G A s.heap [asgW Y z (setN (setN (setN lf 0 (ρ 5 + x0)) 1 (ρ 6 + x1)) 2 (ρ 7 + x2)) tk bt (mw (0, 0).1), aucW Y h ρ γ] H locs := hw
        refine lv_aload_n hx hb dX0_find_46 rfl (lv_at hl 1 rfl) ?_
        refine lv_aload_n hx hb dX0_find_47 rfl (lv_at hl 2 rfl) ?_
        refine lv_iload_n hx hb dX0_find_48 rfl (lv_at hl 3 rfl) ?_
        refine lv_iconst (v := (nI 0)) hx hb dX0_find_49 (by decide) ?_
        refine lv_iconst (v := (nI 0)) hx hb dX0_find_50 (by decide) ?_
        refine x_cVV (As := [.ref h, .int (mw w), .int (nI 0), .int (nI 0)]) (k_X0_tryFrom_6 l G Y z h (setN (setN (setN lf 0 (ρ 5 + x0)) 1 (ρ 6 + x1)) 2 (ρ 7 + x2)) tk bt ρ γ w mq 0 0 0 (0, 0) (hI) (hw6) (fea_0P) (hlk) (fun q hq => absurd hq (Nat.not_lt_zero _)) (Or.inl rfl) (good_0) (rfl) (by omega) (by omega)) cw_X0_30 [0, 1] 0 0 M hK hZ hw hl.1 rfl (by decide) rfl rfl rfl ⟨by decide, by decide⟩ ⟨Nat.zero_le _, Nat.zero_le _⟩ rfl rfl (Nat.le_of_ble_eq_true rfl) dX0_find_51 (fun sg h_11 H locs hw => ?_)
        obtain ⟨tka12, bta13, hta14, htb15, rfl⟩ := h_11
        have hw : xW G A s.heap [asgW Y z (setN (setN (setN lf 0 (ρ 5 + x0)) 1 (ρ 6 + x1)) 2 (ρ 7 + x2)) tka12 bta13 (mw (FB ρ w mq (ρ 4 - 0) 0 0 (0, 0)).1), aucW Y h ρ γ] H locs := hw
        have hp0 := bestA_pos (ρ := ρ) (m := mq) hw6
        have hFB : FB ρ w mq (ρ 4 - 0) 0 0 (0, 0) = bestA ρ w mq := bestA_FB
        have hch := htb15
        rw [hFB] at hw hch
        have hch : ∀ q, q < ρ 4 → bta13 q = mw (dP (ρ 4) (bestA ρ w mq).2 q) := hch.resolve_left (by omega)
        have hbw : mw (bestA ρ w mq).1 = nI (worA ρ w mq) := mw_p hp0
        rw [hbw] at hw
        have hw : xW G A s.heap [asgW Y z (setN (setN (setN lf 0 (ρ 5 + x0)) 1 (ρ 6 + x1)) 2 (ρ 7 + x2)) tka12 bta13 (nI (worA ρ w mq)), aucW Y h ρ γ] H locs := hw
        refine lv_aload_n hx hb dX0_find_54 rfl (lv_at hl 1 rfl) ?_
        refine x_get M hK hw 0 0 rfl rfl ff_X0_26 rfl dX0_find_55 ?_
        exact hret _ _ _ (nI (worA ρ w mq)) _ _ dX0_find_58 hw rfl rfl ⟨rfl, _, tka12, bta13, by unfold choA; exact hch, rfl⟩
      refine lv_iload hx hb dX0_find_22 (lv_at hl 0 rfl) ?_
      refine lv_iload_n hx hb dX0_find_24 rfl (lv_at hl 4 rfl) ?_
      refine lv_icmp_ne (tgt := 32) hx hb dX0_find_25 (by decide) (fun c_16 => ?_) (fun c_16 => ?_)
      · refine lv_iconst (v := (nI 0)) hx hb dX0_find_32 (by decide) ?_
        exact L33 0 ((if_neg (fun z => c_16 ((nI_mw (by decide) (by omega)).mpr z))).symm) _ _ hw _ (lv_sub hl [1, 2, 3, 4, 0] rfl)
      refine lv_iconst (v := (nI 1)) hx hb dX0_find_28 (by decide) ?_
      refine lv_goto (tgt := 33) hx hb dX0_find_29 (by decide) ?_
      exact L33 1 ((if_pos ((nI_mw (by decide) (by omega)).mp c_16)).symm) _ _ hw _ (lv_sub hl [1, 2, 3, 4, 0] rfl)
    refine lv_iload hx hb dX0_find_22 (lv_at hl 0 rfl) ?_
    refine lv_iload_n hx hb dX0_find_24 rfl (lv_at hl 4 rfl) ?_
    refine lv_icmp_ne (tgt := 32) hx hb dX0_find_25 (by decide) (fun c_17 => ?_) (fun c_17 => ?_)
    · refine lv_iconst (v := (nI 0)) hx hb dX0_find_32 (by decide) ?_
      exact L33 0 ((if_neg (fun z => c_17 ((nI_mw (by decide) (by omega)).mpr z))).symm) _ _ hw _ (lv_sub hl [1, 2, 3, 4, 0] rfl)
    refine lv_iconst (v := (nI 1)) hx hb dX0_find_28 (by decide) ?_
    refine lv_goto (tgt := 33) hx hb dX0_find_29 (by decide) ?_
    exact L33 1 ((if_pos ((nI_mw (by decide) (by omega)).mp c_17)).symm) _ _ hw _ (lv_sub hl [1, 2, 3, 4, 0] rfl)
  refine lv_iload hx hb dX0_find_22 (lv_at hl 0 rfl) ?_
  refine lv_iload_n hx hb dX0_find_24 rfl (lv_at hl 4 rfl) ?_
  refine lv_icmp_ne (tgt := 32) hx hb dX0_find_25 (by decide) (fun c_18 => ?_) (fun c_18 => ?_)
  · refine lv_iconst (v := (nI 0)) hx hb dX0_find_32 (by decide) ?_
    exact L33 0 ((if_neg (fun z => c_18 ((nI_mw (by decide) (by omega)).mpr z))).symm) _ _ hw _ (lv_sub hl [1, 2, 3, 4, 0] rfl)
  refine lv_iconst (v := (nI 1)) hx hb dX0_find_28 (by decide) ?_
  refine lv_goto (tgt := 33) hx hb dX0_find_29 (by decide) ?_
  exact L33 1 ((if_pos ((nI_mw (by decide) (by omega)).mp c_18)).symm) _ _ hw _ (lv_sub hl [1, 2, 3, 4, 0] rfl)
set_option maxHeartbeats 4000000 in
set_option maxRecDepth 20000 in
theorem k_X0_packOf (l : Launch) (G : va_G) (Y : Nat → Nat) (z b : Nat) (lf : Nat → Nat) (tk bt : Nat → Int32) (bw : Int32) (hj : b < 6) : CtI l yX0_packOf cX0_packOf 2 .int 0 0 [.ref z, .int (nI b)] [asgW Y z lf tk bt bw] (fun r sg => r = bt b ∧ sg = [asgW Y z lf tk bt bw]) G Y := by
  refine x_ofI (by decide) (Nat.le_of_ble_eq_true rfl) (fun p e s m args below meth c A ls Q M hK hZ hw hl hret => ?_)
  obtain ⟨hx, hb, -⟩ := id M
  have hl : lv_has ls 2 [(0, .ref z), (1, .int (nI b))] := hl
  refine lv_aload_n hx hb dX0_packOf_0 rfl (lv_at hl 0 rfl) ?_
  refine x_get M hK hw 0 0 rfl rfl ff_X0_18 rfl dX0_packOf_1 ?_
  refine lv_iload_n hx hb dX0_packOf_4 rfl (lv_at hl 1 rfl) ?_
  refine x_iald M hK hw 0 3 rfl rfl (by omega) (by decide) dX0_packOf_5 ?_
  exact hret _ _ _ (bt b) _ _ dX0_packOf_6 hw rfl rfl ⟨rfl, rfl⟩
set_option maxHeartbeats 4000000 in
set_option maxRecDepth 20000 in
theorem k_X6_fits (l : Launch) (G : va_G) (Y : Nat → Nat) (mo rf tx sz nw tr dy ac kp ik td ch sp ou a : Nat) (tr1 : Nat → Nat) (ρ : Nat → Nat) (mq : Nat) (hI : Inv ρ) (hm6 : mq ≤ 3) (htr : ∀ b, b < ρ 4 → tr1 b ≤ ρ (22 + 21 * b) + 1) : CtI l yX6_fits cX6_fits 7 .boolean 2 45 [.ref mo, .ref a, .int (mw mq)] [[(mo, .inr (5, [.int (nI rf), .ref tx, .int (nI sz), .ref nw, .ref tr, .ref dy, .int (nI ac), .ref kp, .ref ik, .ref td, .ref ch, .int (nI sp), .int (nI ou)]))], [(td, .inl (Y 0, 6, .inl (rowF tr1)))], [(a, .inl (Y 0, 140, .inl (rowF ρ)))]] (fun r sg => r = b2i (decide (sumB (fun b => lOf ρ b (tr1 b) 0) (ρ 4) ≤ rmA ρ mq 0 ∧ sumB (fun b => lOf ρ b (tr1 b) 1) (ρ 4) ≤ rmA ρ mq 1 ∧ sumB (fun b => lOf ρ b (tr1 b) 2) (ρ 4) ≤ rmA ρ mq 2)) ∧ sg = [[(mo, .inr (5, [.int (nI rf), .ref tx, .int (nI sz), .ref nw, .ref tr, .ref dy, .int (nI ac), .ref kp, .ref ik, .ref td, .ref ch, .int (nI sp), .int (nI ou)]))], [(td, .inl (Y 0, 6, .inl (rowF tr1)))], [(a, .inl (Y 0, 140, .inl (rowF ρ)))]]) G Y := by
  refine x_ofI (by decide) (Nat.le_of_ble_eq_true rfl) (fun p e s m args below meth c A ls Q M hK hZ hw hl hret => ?_)
  obtain ⟨hx, hb, -⟩ := id M
  have hl : lv_has ls 7 [(0, .ref mo), (1, .ref a), (2, .int (mw mq))] := hl
  have := hI.n6
  have := hI.over
  have := hI.keep
  have := hI.stepp
  refine lv_iconst (v := (nI 1)) hx hb dX6_fits_0 (by decide) ?_
  refine lv_istore_n (lv' := [(3, .int (nI 1)), (0, .ref mo), (1, .ref a), (2, .int (mw mq))]) hx hb dX6_fits_1 rfl hl (by decide) rfl (fun ls hl => ?_)
  refine lv_iconst (v := (nI 0)) hx hb dX6_fits_2 (by decide) ?_
  refine lv_istore (lv' := [(4, .int (nI 0)), (3, .int (nI 1)), (0, .ref mo), (1, .ref a), (2, .int (mw mq))]) hx hb dX6_fits_3 hl (by decide) rfl (fun ls hl => ?_)
  refine lv_iload hx hb dX6_fits_5 (lv_at hl 0 rfl) ?_
  refine lv_iconst (v := (nI 3)) hx hb dX6_fits_7 (by decide) ?_
  refine x_cge M (tgt := 106) (by decide) (by decide) dX6_fits_8 (by decide) (fun c_1 => absurd c_1 (by decide)) (fun c_1 => ?_)
  refine lv_iload_n hx hb dX6_fits_11 rfl (lv_at hl 1 rfl) ?_
  refine x_zeq M (tgt := 106) (by decide) dX6_fits_12 (by decide) (fun c_2 => absurd c_2 (by decide)) (fun c_2 => ?_)
  have L99 : ∀ (f0 : Bool), (f0 = decide (sumB (fun b => lOf ρ b (tr1 b) 0) (ρ 4) ≤ rmA ρ mq 0)) → ∀ (H : Heap) (locs : List Loc), xW G A s.heap [[(mo, .inr (5, [.int (nI rf), .ref tx, .int (nI sz), .ref nw, .ref tr, .ref dy, .int (nI ac), .ref kp, .ref ik, .ref td, .ref ch, .int (nI sp), .int (nI ou)]))], [(td, .inl (Y 0, 6, .inl (rowF tr1)))], [(a, .inl (Y 0, 140, .inl (rowF ρ)))]] H locs → ∀ (ls : Array Slot), lv_has ls 7 [(0, .ref mo), (1, .ref a), (2, .int (mw mq)), (3, .int (nI 1)), (4, .int (nI 0))] → W p l e (xRm 2 45) s m args below meth c H locs 0 0 Q (F0 m 99 ls [.int (b2i f0)]) := by
    intro f0 hf0 H locs hw ls hl
    refine lv_istore_n (lv' := [(3, .int (b2i f0)), (0, .ref mo), (1, .ref a), (2, .int (mw mq)), (4, .int (nI 0))]) hx hb dX6_fits_99 rfl hl (by decide) rfl (fun ls hl => ?_)
    refine lv_iinc (v := (nI 1)) (lv' := [(4, .int (nI 1)), (3, .int (b2i f0)), (0, .ref mo), (1, .ref a), (2, .int (mw mq))]) hx hb dX6_fits_100 hl (k := 4) rfl (by decide) (by decide) rfl (fun ls hl => ?_)
    refine lv_goto (tgt := 5) hx hb dX6_fits_103 (by decide) ?_
    refine lv_iload hx hb dX6_fits_5 (lv_at hl 0 rfl) ?_
    refine lv_iconst (v := (nI 3)) hx hb dX6_fits_7 (by decide) ?_
    refine x_cge M (tgt := 106) (by decide) (by decide) dX6_fits_8 (by decide) (fun c_3 => absurd c_3 (by decide)) (fun c_3 => ?_)
    refine lv_iload_n hx hb dX6_fits_11 rfl (lv_at hl 1 rfl) ?_
    refine x_beq M (tgt := 106) dX6_fits_12 (by decide) (fun c_4 => ?_) (fun c_4 => ?_)
    · refine lv_iload_n hx hb dX6_fits_106 rfl (lv_at hl 1 rfl) ?_
      exact hret _ _ _ (b2i f0) _ _ dX6_fits_107 hw (b2i_nar _) rfl ⟨congrArg b2i (by clear hret hw hl M hK hZ hx hb; rw [c_4]; exact (decide_eq_false (fun z => by have z2 := of_decide_eq_false (hf0.symm.trans c_4); exact z2 z.1)).symm), rfl⟩
    have L99 : ∀ (f1 : Bool), (f1 = decide (sumB (fun b => lOf ρ b (tr1 b) 0) (ρ 4) ≤ rmA ρ mq 0 ∧ sumB (fun b => lOf ρ b (tr1 b) 1) (ρ 4) ≤ rmA ρ mq 1)) → ∀ (H : Heap) (locs : List Loc), xW G A s.heap [[(mo, .inr (5, [.int (nI rf), .ref tx, .int (nI sz), .ref nw, .ref tr, .ref dy, .int (nI ac), .ref kp, .ref ik, .ref td, .ref ch, .int (nI sp), .int (nI ou)]))], [(td, .inl (Y 0, 6, .inl (rowF tr1)))], [(a, .inl (Y 0, 140, .inl (rowF ρ)))]] H locs → ∀ (ls : Array Slot), lv_has ls 7 [(0, .ref mo), (1, .ref a), (2, .int (mw mq)), (3, .int (b2i f0)), (4, .int (nI 1))] → W p l e (xRm 2 45) s m args below meth c H locs 0 0 Q (F0 m 99 ls [.int (b2i f1)]) := by
      intro f1 hf1 H locs hw ls hl
      refine lv_istore_n (lv' := [(3, .int (b2i f1)), (0, .ref mo), (1, .ref a), (2, .int (mw mq)), (4, .int (nI 1))]) hx hb dX6_fits_99 rfl hl (by decide) rfl (fun ls hl => ?_)
      refine lv_iinc (v := (nI 2)) (lv' := [(4, .int (nI 2)), (3, .int (b2i f1)), (0, .ref mo), (1, .ref a), (2, .int (mw mq))]) hx hb dX6_fits_100 hl (k := 4) rfl (by decide) (by decide) rfl (fun ls hl => ?_)
      refine lv_goto (tgt := 5) hx hb dX6_fits_103 (by decide) ?_
      refine lv_iload hx hb dX6_fits_5 (lv_at hl 0 rfl) ?_
      refine lv_iconst (v := (nI 3)) hx hb dX6_fits_7 (by decide) ?_
      refine x_cge M (tgt := 106) (by decide) (by decide) dX6_fits_8 (by decide) (fun c_5 => absurd c_5 (by decide)) (fun c_5 => ?_)
      refine lv_iload_n hx hb dX6_fits_11 rfl (lv_at hl 1 rfl) ?_
      refine x_beq M (tgt := 106) dX6_fits_12 (by decide) (fun c_6 => ?_) (fun c_6 => ?_)
      · refine lv_iload_n hx hb dX6_fits_106 rfl (lv_at hl 1 rfl) ?_
        exact hret _ _ _ (b2i f1) _ _ dX6_fits_107 hw (b2i_nar _) rfl ⟨congrArg b2i (by clear hret hw hl M hK hZ hx hb; rw [c_6]; exact (decide_eq_false (fun z => by have z2 := of_decide_eq_false (hf1.symm.trans c_6); exact z2 ⟨z.1, z.2.1⟩)).symm), rfl⟩
      have L99 : ∀ (f2 : Bool), (f2 = decide (sumB (fun b => lOf ρ b (tr1 b) 0) (ρ 4) ≤ rmA ρ mq 0 ∧ sumB (fun b => lOf ρ b (tr1 b) 1) (ρ 4) ≤ rmA ρ mq 1 ∧ sumB (fun b => lOf ρ b (tr1 b) 2) (ρ 4) ≤ rmA ρ mq 2)) → ∀ (H : Heap) (locs : List Loc), xW G A s.heap [[(mo, .inr (5, [.int (nI rf), .ref tx, .int (nI sz), .ref nw, .ref tr, .ref dy, .int (nI ac), .ref kp, .ref ik, .ref td, .ref ch, .int (nI sp), .int (nI ou)]))], [(td, .inl (Y 0, 6, .inl (rowF tr1)))], [(a, .inl (Y 0, 140, .inl (rowF ρ)))]] H locs → ∀ (ls : Array Slot), lv_has ls 7 [(0, .ref mo), (1, .ref a), (2, .int (mw mq)), (3, .int (b2i f1)), (4, .int (nI 2))] → W p l e (xRm 2 45) s m args below meth c H locs 0 0 Q (F0 m 99 ls [.int (b2i f2)]) := by
        intro f2 hf2 H locs hw ls hl
        refine lv_istore_n (lv' := [(3, .int (b2i f2)), (0, .ref mo), (1, .ref a), (2, .int (mw mq)), (4, .int (nI 2))]) hx hb dX6_fits_99 rfl hl (by decide) rfl (fun ls hl => ?_)
        refine lv_iinc (v := (nI 3)) (lv' := [(4, .int (nI 3)), (3, .int (b2i f2)), (0, .ref mo), (1, .ref a), (2, .int (mw mq))]) hx hb dX6_fits_100 hl (k := 4) rfl (by decide) (by decide) rfl (fun ls hl => ?_)
        refine lv_goto (tgt := 5) hx hb dX6_fits_103 (by decide) ?_
        refine lv_iload hx hb dX6_fits_5 (lv_at hl 0 rfl) ?_
        refine lv_iconst (v := (nI 3)) hx hb dX6_fits_7 (by decide) ?_
        refine x_cge M (tgt := 106) (by decide) (by decide) dX6_fits_8 (by decide) (fun c_7 => ?_) (fun c_7 => absurd c_7 (by decide))
        refine lv_iload_n hx hb dX6_fits_106 rfl (lv_at hl 1 rfl) ?_
        exact hret _ _ _ (b2i f2) _ _ dX6_fits_107 hw (b2i_nar _) rfl ⟨congrArg b2i (by clear hret hw hl M hK hZ hx hb; rw [hf2]), rfl⟩
      refine lv_iconst (v := (nI 0)) hx hb dX6_fits_15 (by decide) ?_
      refine lv_istore (lv' := [(5, .int (nI 0)), (4, .int (nI 2)), (3, .int (b2i f1)), (0, .ref mo), (1, .ref a), (2, .int (mw mq))]) hx hb dX6_fits_16 hl (by decide) rfl (fun ls hl => ?_)
      refine lv_iconst (v := (nI 0)) hx hb dX6_fits_18 (by decide) ?_
      refine lv_istore (lv' := [(6, .int (nI 0)), (5, .int (nI 0)), (4, .int (nI 2)), (3, .int (b2i f1)), (0, .ref mo), (1, .ref a), (2, .int (mw mq))]) hx hb dX6_fits_19 hl (by decide) rfl (fun ls hl => ?_)
      have L21 : ∀ (fu : Nat) (b : Nat) (x : Nat), (ρ 4 - b < fu) → (b ≤ ρ 4) → (x = sumB (fun b => lOf ρ b (tr1 b) 2) b) → (x ≤ 9 * b) → ∀ (H : Heap) (locs : List Loc), xW G A s.heap [[(mo, .inr (5, [.int (nI rf), .ref tx, .int (nI sz), .ref nw, .ref tr, .ref dy, .int (nI ac), .ref kp, .ref ik, .ref td, .ref ch, .int (nI sp), .int (nI ou)]))], [(td, .inl (Y 0, 6, .inl (rowF tr1)))], [(a, .inl (Y 0, 140, .inl (rowF ρ)))]] H locs → ∀ (ls : Array Slot), lv_has ls 7 [(0, .ref mo), (1, .ref a), (2, .int (mw mq)), (3, .int (b2i f1)), (4, .int (nI 2)), (5, .int (nI x)), (6, .int (nI b))] → W p l e (xRm 2 45) s m args below meth c H locs 0 0 Q (F0 m 21 ls []) := by
        intro fu
        induction fu with
        | zero => intro b x hm; exact absurd hm (Nat.not_lt_zero _)
        | succ fu ih21 =>
          intro b x hm hb1 hx1 hx9 H locs hw ls hl
          refine lv_iload hx hb dX6_fits_21 (lv_at hl 6 rfl) ?_
          refine lv_aload_n hx hb dX6_fits_23 rfl (lv_at hl 1 rfl) ?_
          refine lv_iconst (v := (nI 4)) hx hb dX6_fits_24 (by decide) ?_
          refine x_iald M hK hw 2 0 rfl rfl (by decide) (by decide) dX6_fits_25 ?_
          refine x_topN (n := ρ 4) rfl ?_
          have q_8 : ρ 4 ≤ 6 := hI.n6
          refine x_cge M (tgt := 71) (by omega) (by omega) dX6_fits_26 (by decide) (fun c_9 => ?_) (fun c_9 => ?_)
          · obtain rfl : b = ρ 4 := by omega
            have hxs : x = sumB (fun b => lOf ρ b (tr1 b) 2) (ρ 4) := hx1
            refine lv_iload hx hb dX6_fits_71 (lv_at hl 5 rfl) ?_
            refine lv_aload_n hx hb dX6_fits_73 rfl (lv_at hl 1 rfl) ?_
            refine lv_iconst (v := (nI 5)) hx hb dX6_fits_74 (by decide) ?_
            refine lv_iload hx hb dX6_fits_75 (lv_at hl 4 rfl) ?_
            refine x_iadd M (n := 7) dX6_fits_77 rfl ?_
            refine x_iald M hK hw 2 0 rfl rfl (by decide) (by decide) dX6_fits_78 ?_
            refine x_topN (n := ρ 7) rfl ?_
            have q_10 : 1 ≤ ρ 7 := (hI.sup (q := 7) (k := 2) (by decide) rfl).1
            have q_11 : ρ 7 ≤ 9 := (hI.sup (q := 7) (k := 2) (by decide) rfl).2
            refine lv_iload_n hx hb dX6_fits_79 rfl (lv_at hl 2 rfl) ?_
            refine lv_iload hx hb dX6_fits_80 (lv_at hl 4 rfl) ?_
            refine lv_icmp_ne (tgt := 89) hx hb dX6_fits_82 (by decide) (fun c_12 => ?_) (fun c_12 => ?_)
            · refine lv_iconst (v := (nI 0)) hx hb dX6_fits_89 (by decide) ?_
              refine x_iadd M (n := ρ 7) dX6_fits_90 (by omega) ?_
              refine x_cgt M (tgt := 98) (by omega) (by omega) dX6_fits_91 (by decide) (fun c_13 => ?_) (fun c_13 => ?_)
              · refine lv_iconst (v := (nI 0)) hx hb dX6_fits_98 (by decide) ?_
                exact L99 false (by have hz1 := of_decide_eq_true (hf1.symm.trans c_6); have hS2 : rmA ρ mq 2 = ρ 7 + 0 := (by unfold rmA; rw [if_neg (fun z => c_12 ((mw_nI (by decide) (by omega)).mpr z))]); exact (decide_eq_false (fun z => by have z2 := z.2.2; rw [hS2] at z2; omega)).symm) _ _ hw _ (lv_sub hl [0, 1, 2, 3, 4] rfl)
              refine lv_iconst (v := (nI 1)) hx hb dX6_fits_94 (by decide) ?_
              refine lv_goto (tgt := 99) hx hb dX6_fits_95 (by decide) ?_
              exact L99 true (by have hz1 := of_decide_eq_true (hf1.symm.trans c_6); have hS2 : rmA ρ mq 2 = ρ 7 + 0 := (by unfold rmA; rw [if_neg (fun z => c_12 ((mw_nI (by decide) (by omega)).mpr z))]); exact (decide_eq_true (⟨hz1.1, hz1.2, by rw [hS2]; omega⟩)).symm) _ _ hw _ (lv_sub hl [0, 1, 2, 3, 4] rfl)
            refine lv_iconst (v := (nI 1)) hx hb dX6_fits_85 (by decide) ?_
            refine lv_goto (tgt := 90) hx hb dX6_fits_86 (by decide) ?_
            refine x_iadd M (n := 1 + ρ 7) dX6_fits_90 (by omega) ?_
            refine x_cgt M (tgt := 98) (by omega) (by omega) dX6_fits_91 (by decide) (fun c_14 => ?_) (fun c_14 => ?_)
            · refine lv_iconst (v := (nI 0)) hx hb dX6_fits_98 (by decide) ?_
              exact L99 false (by have hz1 := of_decide_eq_true (hf1.symm.trans c_6); have hS2 : rmA ρ mq 2 = ρ 7 + 1 := (by unfold rmA; rw [if_pos ((mw_nI (by decide) (by omega)).mp c_12)]); exact (decide_eq_false (fun z => by have z2 := z.2.2; rw [hS2] at z2; omega)).symm) _ _ hw _ (lv_sub hl [0, 1, 2, 3, 4] rfl)
            refine lv_iconst (v := (nI 1)) hx hb dX6_fits_94 (by decide) ?_
            refine lv_goto (tgt := 99) hx hb dX6_fits_95 (by decide) ?_
            exact L99 true (by have hz1 := of_decide_eq_true (hf1.symm.trans c_6); have hS2 : rmA ρ mq 2 = ρ 7 + 1 := (by unfold rmA; rw [if_pos ((mw_nI (by decide) (by omega)).mp c_12)]); exact (decide_eq_true (⟨hz1.1, hz1.2, by rw [hS2]; omega⟩)).symm) _ _ hw _ (lv_sub hl [0, 1, 2, 3, 4] rfl)
          have htb := htr b (by omega)
          have hpk := hI.pck (j := b) (by omega) rfl
          refine lv_iload hx hb dX6_fits_29 (lv_at hl 5 rfl) ?_
          refine lv_aload_n hx hb dX6_fits_31 rfl (lv_at hl 0 rfl) ?_
          refine x_get M hK hw 0 0 rfl rfl ff_X6_29 rfl dX6_fits_32 ?_
          refine lv_iload hx hb dX6_fits_35 (lv_at hl 6 rfl) ?_
          refine x_iald M hK hw 1 0 rfl rfl (by omega) (by decide) dX6_fits_37 ?_
          refine x_topN (n := tr1 b) rfl ?_
          refine x_zne M (tgt := 45) (by omega) dX6_fits_38 (by decide) (fun c_15 => ?_) (fun c_15 => ?_)
          · refine lv_aload_n hx hb dX6_fits_45 rfl (lv_at hl 1 rfl) ?_
            refine lv_iload hx hb dX6_fits_46 (lv_at hl 6 rfl) ?_
            refine lv_aload_n hx hb dX6_fits_48 rfl (lv_at hl 0 rfl) ?_
            refine x_get M hK hw 0 0 rfl rfl ff_X6_29 rfl dX6_fits_49 ?_
            refine lv_iload hx hb dX6_fits_52 (lv_at hl 6 rfl) ?_
            refine x_iald M hK hw 1 0 rfl rfl (by omega) (by decide) dX6_fits_54 ?_
            refine x_topN (n := tr1 b) rfl ?_
            refine lv_iconst (v := (nI 1)) hx hb dX6_fits_55 (by decide) ?_
            refine x_isub M (n := (tr1 b - 1)) dX6_fits_56 (by omega) ?_
            refine lv_iload hx hb dX6_fits_57 (lv_at hl 4 rfl) ?_
            refine x_cSI (As := [.ref a, .int (nI b), .int (nI (tr1 b - 1)), .int (nI 2)]) (k_X6_packOf l G Y a b (tr1 b - 1) 2 ρ (hI) (by omega) (by omega) (by omega)) cw_X6_91 [2] M hK hZ hw hl.1 rfl (by decide) ⟨by decide, by decide⟩ ⟨Nat.zero_le _, Nat.zero_le _⟩ rfl rfl (Nat.le_of_ble_eq_true rfl) dX6_fits_59 (fun r sg h_16 H locs hw => ?_)
            obtain ⟨rfl, rfl⟩ := h_16
            have hw : xW G A s.heap [[(mo, .inr (5, [.int (nI rf), .ref tx, .int (nI sz), .ref nw, .ref tr, .ref dy, .int (nI ac), .ref kp, .ref ik, .ref td, .ref ch, .int (nI sp), .int (nI ou)]))], [(td, .inl (Y 0, 6, .inl (rowF tr1)))], [(a, .inl (Y 0, 140, .inl (rowF ρ)))]] H locs := hw
            have q_17 : lotOf ρ b (tr1 b - 1) 2 ≤ 9 := lotOf_le hI (by omega) (by omega) (by omega)
            refine x_iadd M (n := x + lotOf ρ b (tr1 b - 1) 2) dX6_fits_62 rfl ?_
            refine lv_istore (lv' := [(5, .int (nI (x + lotOf ρ b (tr1 b - 1) 2))), (0, .ref mo), (1, .ref a), (2, .int (mw mq)), (3, .int (b2i f1)), (4, .int (nI 2)), (6, .int (nI b))]) hx hb dX6_fits_63 hl (by decide) rfl (fun ls hl => ?_)
            refine lv_iinc (v := (nI (1 + b))) (lv' := [(6, .int (nI (1 + b))), (5, .int (nI (x + lotOf ρ b (tr1 b - 1) 2))), (0, .ref mo), (1, .ref a), (2, .int (mw mq)), (3, .int (b2i f1)), (4, .int (nI 2))]) hx hb dX6_fits_65 hl (k := 6) rfl (by rw [show (1 : Int) = ((1 : Nat) : Int) from rfl, nI_inc]; exact congrArg nI (by omega)) (by decide) rfl (fun ls hl => ?_)
            refine lv_goto (tgt := 21) hx hb dX6_fits_68 (by decide) ?_
            exact ih21 (1 + b) (x + lotOf ρ b (tr1 b - 1) 2) (by omega) (by omega) (by rw [sumB_1, ← hx1]; unfold lOf; rw [if_neg (by omega)]) (by omega) _ _ hw _ (lv_sub hl [2, 3, 4, 5, 6, 1, 0] rfl)
          refine lv_iconst (v := (nI 0)) hx hb dX6_fits_41 (by decide) ?_
          refine lv_goto (tgt := 62) hx hb dX6_fits_42 (by decide) ?_
          refine x_iadd M (n := x) dX6_fits_62 (by omega) ?_
          refine lv_istore (lv' := [(5, .int (nI x)), (0, .ref mo), (1, .ref a), (2, .int (mw mq)), (3, .int (b2i f1)), (4, .int (nI 2)), (6, .int (nI b))]) hx hb dX6_fits_63 hl (by decide) rfl (fun ls hl => ?_)
          refine lv_iinc (v := (nI (1 + b))) (lv' := [(6, .int (nI (1 + b))), (5, .int (nI x)), (0, .ref mo), (1, .ref a), (2, .int (mw mq)), (3, .int (b2i f1)), (4, .int (nI 2))]) hx hb dX6_fits_65 hl (k := 6) rfl (by rw [show (1 : Int) = ((1 : Nat) : Int) from rfl, nI_inc]; exact congrArg nI (by omega)) (by decide) rfl (fun ls hl => ?_)
          refine lv_goto (tgt := 21) hx hb dX6_fits_68 (by decide) ?_
          exact ih21 (1 + b) x (by omega) (by omega) (by rw [sumB_1, ← hx1]; unfold lOf; rw [if_pos (by omega)]; rfl) (by omega) _ _ hw _ (lv_sub hl [2, 3, 4, 5, 6, 1, 0] rfl)
      exact L21 (ρ 4 - 0 + 1) 0 0 (Nat.lt_succ_self _) (by omega) (rfl) (by omega) _ _ hw _ (lv_sub hl [4, 5, 6, 3, 2, 1, 0] rfl)
    refine lv_iconst (v := (nI 0)) hx hb dX6_fits_15 (by decide) ?_
    refine lv_istore (lv' := [(5, .int (nI 0)), (4, .int (nI 1)), (3, .int (b2i f0)), (0, .ref mo), (1, .ref a), (2, .int (mw mq))]) hx hb dX6_fits_16 hl (by decide) rfl (fun ls hl => ?_)
    refine lv_iconst (v := (nI 0)) hx hb dX6_fits_18 (by decide) ?_
    refine lv_istore (lv' := [(6, .int (nI 0)), (5, .int (nI 0)), (4, .int (nI 1)), (3, .int (b2i f0)), (0, .ref mo), (1, .ref a), (2, .int (mw mq))]) hx hb dX6_fits_19 hl (by decide) rfl (fun ls hl => ?_)
    have L21 : ∀ (fu : Nat) (b : Nat) (x : Nat), (ρ 4 - b < fu) → (b ≤ ρ 4) → (x = sumB (fun b => lOf ρ b (tr1 b) 1) b) → (x ≤ 9 * b) → ∀ (H : Heap) (locs : List Loc), xW G A s.heap [[(mo, .inr (5, [.int (nI rf), .ref tx, .int (nI sz), .ref nw, .ref tr, .ref dy, .int (nI ac), .ref kp, .ref ik, .ref td, .ref ch, .int (nI sp), .int (nI ou)]))], [(td, .inl (Y 0, 6, .inl (rowF tr1)))], [(a, .inl (Y 0, 140, .inl (rowF ρ)))]] H locs → ∀ (ls : Array Slot), lv_has ls 7 [(0, .ref mo), (1, .ref a), (2, .int (mw mq)), (3, .int (b2i f0)), (4, .int (nI 1)), (5, .int (nI x)), (6, .int (nI b))] → W p l e (xRm 2 45) s m args below meth c H locs 0 0 Q (F0 m 21 ls []) := by
      intro fu
      induction fu with
      | zero => intro b x hm; exact absurd hm (Nat.not_lt_zero _)
      | succ fu ih21 =>
        intro b x hm hb1 hx1 hx9 H locs hw ls hl
        refine lv_iload hx hb dX6_fits_21 (lv_at hl 6 rfl) ?_
        refine lv_aload_n hx hb dX6_fits_23 rfl (lv_at hl 1 rfl) ?_
        refine lv_iconst (v := (nI 4)) hx hb dX6_fits_24 (by decide) ?_
        refine x_iald M hK hw 2 0 rfl rfl (by decide) (by decide) dX6_fits_25 ?_
        refine x_topN (n := ρ 4) rfl ?_
        have q_18 : ρ 4 ≤ 6 := hI.n6
        refine x_cge M (tgt := 71) (by omega) (by omega) dX6_fits_26 (by decide) (fun c_19 => ?_) (fun c_19 => ?_)
        · obtain rfl : b = ρ 4 := by omega
          have hxs : x = sumB (fun b => lOf ρ b (tr1 b) 1) (ρ 4) := hx1
          refine lv_iload hx hb dX6_fits_71 (lv_at hl 5 rfl) ?_
          refine lv_aload_n hx hb dX6_fits_73 rfl (lv_at hl 1 rfl) ?_
          refine lv_iconst (v := (nI 5)) hx hb dX6_fits_74 (by decide) ?_
          refine lv_iload hx hb dX6_fits_75 (lv_at hl 4 rfl) ?_
          refine x_iadd M (n := 6) dX6_fits_77 rfl ?_
          refine x_iald M hK hw 2 0 rfl rfl (by decide) (by decide) dX6_fits_78 ?_
          refine x_topN (n := ρ 6) rfl ?_
          have q_20 : 1 ≤ ρ 6 := (hI.sup (q := 6) (k := 1) (by decide) rfl).1
          have q_21 : ρ 6 ≤ 9 := (hI.sup (q := 6) (k := 1) (by decide) rfl).2
          refine lv_iload_n hx hb dX6_fits_79 rfl (lv_at hl 2 rfl) ?_
          refine lv_iload hx hb dX6_fits_80 (lv_at hl 4 rfl) ?_
          refine lv_icmp_ne (tgt := 89) hx hb dX6_fits_82 (by decide) (fun c_22 => ?_) (fun c_22 => ?_)
          · refine lv_iconst (v := (nI 0)) hx hb dX6_fits_89 (by decide) ?_
            refine x_iadd M (n := ρ 6) dX6_fits_90 (by omega) ?_
            refine x_cgt M (tgt := 98) (by omega) (by omega) dX6_fits_91 (by decide) (fun c_23 => ?_) (fun c_23 => ?_)
            · refine lv_iconst (v := (nI 0)) hx hb dX6_fits_98 (by decide) ?_
              exact L99 false (by have hz0 := of_decide_eq_true (hf0.symm.trans c_4); have hS1 : rmA ρ mq 1 = ρ 6 + 0 := (by unfold rmA; rw [if_neg (fun z => c_22 ((mw_nI (by decide) (by omega)).mpr z))]); exact (decide_eq_false (fun z => by have z2 := z.2; rw [hS1] at z2; omega)).symm) _ _ hw _ (lv_sub hl [0, 1, 2, 3, 4] rfl)
            refine lv_iconst (v := (nI 1)) hx hb dX6_fits_94 (by decide) ?_
            refine lv_goto (tgt := 99) hx hb dX6_fits_95 (by decide) ?_
            exact L99 true (by have hz0 := of_decide_eq_true (hf0.symm.trans c_4); have hS1 : rmA ρ mq 1 = ρ 6 + 0 := (by unfold rmA; rw [if_neg (fun z => c_22 ((mw_nI (by decide) (by omega)).mpr z))]); exact (decide_eq_true (⟨hz0, by rw [hS1]; omega⟩)).symm) _ _ hw _ (lv_sub hl [0, 1, 2, 3, 4] rfl)
          refine lv_iconst (v := (nI 1)) hx hb dX6_fits_85 (by decide) ?_
          refine lv_goto (tgt := 90) hx hb dX6_fits_86 (by decide) ?_
          refine x_iadd M (n := 1 + ρ 6) dX6_fits_90 (by omega) ?_
          refine x_cgt M (tgt := 98) (by omega) (by omega) dX6_fits_91 (by decide) (fun c_24 => ?_) (fun c_24 => ?_)
          · refine lv_iconst (v := (nI 0)) hx hb dX6_fits_98 (by decide) ?_
            exact L99 false (by have hz0 := of_decide_eq_true (hf0.symm.trans c_4); have hS1 : rmA ρ mq 1 = ρ 6 + 1 := (by unfold rmA; rw [if_pos ((mw_nI (by decide) (by omega)).mp c_22)]); exact (decide_eq_false (fun z => by have z2 := z.2; rw [hS1] at z2; omega)).symm) _ _ hw _ (lv_sub hl [0, 1, 2, 3, 4] rfl)
          refine lv_iconst (v := (nI 1)) hx hb dX6_fits_94 (by decide) ?_
          refine lv_goto (tgt := 99) hx hb dX6_fits_95 (by decide) ?_
          exact L99 true (by have hz0 := of_decide_eq_true (hf0.symm.trans c_4); have hS1 : rmA ρ mq 1 = ρ 6 + 1 := (by unfold rmA; rw [if_pos ((mw_nI (by decide) (by omega)).mp c_22)]); exact (decide_eq_true (⟨hz0, by rw [hS1]; omega⟩)).symm) _ _ hw _ (lv_sub hl [0, 1, 2, 3, 4] rfl)
        have htb := htr b (by omega)
        have hpk := hI.pck (j := b) (by omega) rfl
        refine lv_iload hx hb dX6_fits_29 (lv_at hl 5 rfl) ?_
        refine lv_aload_n hx hb dX6_fits_31 rfl (lv_at hl 0 rfl) ?_
        refine x_get M hK hw 0 0 rfl rfl ff_X6_29 rfl dX6_fits_32 ?_
        refine lv_iload hx hb dX6_fits_35 (lv_at hl 6 rfl) ?_
        refine x_iald M hK hw 1 0 rfl rfl (by omega) (by decide) dX6_fits_37 ?_
        refine x_topN (n := tr1 b) rfl ?_
        refine x_zne M (tgt := 45) (by omega) dX6_fits_38 (by decide) (fun c_25 => ?_) (fun c_25 => ?_)
        · refine lv_aload_n hx hb dX6_fits_45 rfl (lv_at hl 1 rfl) ?_
          refine lv_iload hx hb dX6_fits_46 (lv_at hl 6 rfl) ?_
          refine lv_aload_n hx hb dX6_fits_48 rfl (lv_at hl 0 rfl) ?_
          refine x_get M hK hw 0 0 rfl rfl ff_X6_29 rfl dX6_fits_49 ?_
          refine lv_iload hx hb dX6_fits_52 (lv_at hl 6 rfl) ?_
          refine x_iald M hK hw 1 0 rfl rfl (by omega) (by decide) dX6_fits_54 ?_
          refine x_topN (n := tr1 b) rfl ?_
          refine lv_iconst (v := (nI 1)) hx hb dX6_fits_55 (by decide) ?_
          refine x_isub M (n := (tr1 b - 1)) dX6_fits_56 (by omega) ?_
          refine lv_iload hx hb dX6_fits_57 (lv_at hl 4 rfl) ?_
          refine x_cSI (As := [.ref a, .int (nI b), .int (nI (tr1 b - 1)), .int (nI 1)]) (k_X6_packOf l G Y a b (tr1 b - 1) 1 ρ (hI) (by omega) (by omega) (by omega)) cw_X6_91 [2] M hK hZ hw hl.1 rfl (by decide) ⟨by decide, by decide⟩ ⟨Nat.zero_le _, Nat.zero_le _⟩ rfl rfl (Nat.le_of_ble_eq_true rfl) dX6_fits_59 (fun r sg h_26 H locs hw => ?_)
          obtain ⟨rfl, rfl⟩ := h_26
          have hw : xW G A s.heap [[(mo, .inr (5, [.int (nI rf), .ref tx, .int (nI sz), .ref nw, .ref tr, .ref dy, .int (nI ac), .ref kp, .ref ik, .ref td, .ref ch, .int (nI sp), .int (nI ou)]))], [(td, .inl (Y 0, 6, .inl (rowF tr1)))], [(a, .inl (Y 0, 140, .inl (rowF ρ)))]] H locs := hw
          have q_27 : lotOf ρ b (tr1 b - 1) 1 ≤ 9 := lotOf_le hI (by omega) (by omega) (by omega)
          refine x_iadd M (n := x + lotOf ρ b (tr1 b - 1) 1) dX6_fits_62 rfl ?_
          refine lv_istore (lv' := [(5, .int (nI (x + lotOf ρ b (tr1 b - 1) 1))), (0, .ref mo), (1, .ref a), (2, .int (mw mq)), (3, .int (b2i f0)), (4, .int (nI 1)), (6, .int (nI b))]) hx hb dX6_fits_63 hl (by decide) rfl (fun ls hl => ?_)
          refine lv_iinc (v := (nI (1 + b))) (lv' := [(6, .int (nI (1 + b))), (5, .int (nI (x + lotOf ρ b (tr1 b - 1) 1))), (0, .ref mo), (1, .ref a), (2, .int (mw mq)), (3, .int (b2i f0)), (4, .int (nI 1))]) hx hb dX6_fits_65 hl (k := 6) rfl (by rw [show (1 : Int) = ((1 : Nat) : Int) from rfl, nI_inc]; exact congrArg nI (by omega)) (by decide) rfl (fun ls hl => ?_)
          refine lv_goto (tgt := 21) hx hb dX6_fits_68 (by decide) ?_
          exact ih21 (1 + b) (x + lotOf ρ b (tr1 b - 1) 1) (by omega) (by omega) (by rw [sumB_1, ← hx1]; unfold lOf; rw [if_neg (by omega)]) (by omega) _ _ hw _ (lv_sub hl [2, 3, 4, 5, 6, 1, 0] rfl)
        refine lv_iconst (v := (nI 0)) hx hb dX6_fits_41 (by decide) ?_
        refine lv_goto (tgt := 62) hx hb dX6_fits_42 (by decide) ?_
        refine x_iadd M (n := x) dX6_fits_62 (by omega) ?_
        refine lv_istore (lv' := [(5, .int (nI x)), (0, .ref mo), (1, .ref a), (2, .int (mw mq)), (3, .int (b2i f0)), (4, .int (nI 1)), (6, .int (nI b))]) hx hb dX6_fits_63 hl (by decide) rfl (fun ls hl => ?_)
        refine lv_iinc (v := (nI (1 + b))) (lv' := [(6, .int (nI (1 + b))), (5, .int (nI x)), (0, .ref mo), (1, .ref a), (2, .int (mw mq)), (3, .int (b2i f0)), (4, .int (nI 1))]) hx hb dX6_fits_65 hl (k := 6) rfl (by rw [show (1 : Int) = ((1 : Nat) : Int) from rfl, nI_inc]; exact congrArg nI (by omega)) (by decide) rfl (fun ls hl => ?_)
        refine lv_goto (tgt := 21) hx hb dX6_fits_68 (by decide) ?_
        exact ih21 (1 + b) x (by omega) (by omega) (by rw [sumB_1, ← hx1]; unfold lOf; rw [if_pos (by omega)]; rfl) (by omega) _ _ hw _ (lv_sub hl [2, 3, 4, 5, 6, 1, 0] rfl)
    exact L21 (ρ 4 - 0 + 1) 0 0 (Nat.lt_succ_self _) (by omega) (rfl) (by omega) _ _ hw _ (lv_sub hl [4, 5, 6, 3, 2, 1, 0] rfl)
  refine lv_iconst (v := (nI 0)) hx hb dX6_fits_15 (by decide) ?_
  refine lv_istore (lv' := [(5, .int (nI 0)), (4, .int (nI 0)), (3, .int (nI 1)), (0, .ref mo), (1, .ref a), (2, .int (mw mq))]) hx hb dX6_fits_16 hl (by decide) rfl (fun ls hl => ?_)
  refine lv_iconst (v := (nI 0)) hx hb dX6_fits_18 (by decide) ?_
  refine lv_istore (lv' := [(6, .int (nI 0)), (5, .int (nI 0)), (4, .int (nI 0)), (3, .int (nI 1)), (0, .ref mo), (1, .ref a), (2, .int (mw mq))]) hx hb dX6_fits_19 hl (by decide) rfl (fun ls hl => ?_)
  have L21 : ∀ (fu : Nat) (b : Nat) (x : Nat), (ρ 4 - b < fu) → (b ≤ ρ 4) → (x = sumB (fun b => lOf ρ b (tr1 b) 0) b) → (x ≤ 9 * b) → ∀ (H : Heap) (locs : List Loc), xW G A s.heap [[(mo, .inr (5, [.int (nI rf), .ref tx, .int (nI sz), .ref nw, .ref tr, .ref dy, .int (nI ac), .ref kp, .ref ik, .ref td, .ref ch, .int (nI sp), .int (nI ou)]))], [(td, .inl (Y 0, 6, .inl (rowF tr1)))], [(a, .inl (Y 0, 140, .inl (rowF ρ)))]] H locs → ∀ (ls : Array Slot), lv_has ls 7 [(0, .ref mo), (1, .ref a), (2, .int (mw mq)), (3, .int (nI 1)), (4, .int (nI 0)), (5, .int (nI x)), (6, .int (nI b))] → W p l e (xRm 2 45) s m args below meth c H locs 0 0 Q (F0 m 21 ls []) := by
    intro fu
    induction fu with
    | zero => intro b x hm; exact absurd hm (Nat.not_lt_zero _)
    | succ fu ih21 =>
      intro b x hm hb1 hx1 hx9 H locs hw ls hl
      refine lv_iload hx hb dX6_fits_21 (lv_at hl 6 rfl) ?_
      refine lv_aload_n hx hb dX6_fits_23 rfl (lv_at hl 1 rfl) ?_
      refine lv_iconst (v := (nI 4)) hx hb dX6_fits_24 (by decide) ?_
      refine x_iald M hK hw 2 0 rfl rfl (by decide) (by decide) dX6_fits_25 ?_
      refine x_topN (n := ρ 4) rfl ?_
      have q_28 : ρ 4 ≤ 6 := hI.n6
      refine x_cge M (tgt := 71) (by omega) (by omega) dX6_fits_26 (by decide) (fun c_29 => ?_) (fun c_29 => ?_)
      · obtain rfl : b = ρ 4 := by omega
        have hxs : x = sumB (fun b => lOf ρ b (tr1 b) 0) (ρ 4) := hx1
        refine lv_iload hx hb dX6_fits_71 (lv_at hl 5 rfl) ?_
        refine lv_aload_n hx hb dX6_fits_73 rfl (lv_at hl 1 rfl) ?_
        refine lv_iconst (v := (nI 5)) hx hb dX6_fits_74 (by decide) ?_
        refine lv_iload hx hb dX6_fits_75 (lv_at hl 4 rfl) ?_
        refine x_iadd M (n := 5) dX6_fits_77 rfl ?_
        refine x_iald M hK hw 2 0 rfl rfl (by decide) (by decide) dX6_fits_78 ?_
        refine x_topN (n := ρ 5) rfl ?_
        have q_30 : 1 ≤ ρ 5 := (hI.sup (q := 5) (k := 0) (by decide) rfl).1
        have q_31 : ρ 5 ≤ 9 := (hI.sup (q := 5) (k := 0) (by decide) rfl).2
        refine lv_iload_n hx hb dX6_fits_79 rfl (lv_at hl 2 rfl) ?_
        refine lv_iload hx hb dX6_fits_80 (lv_at hl 4 rfl) ?_
        refine lv_icmp_ne (tgt := 89) hx hb dX6_fits_82 (by decide) (fun c_32 => ?_) (fun c_32 => ?_)
        · refine lv_iconst (v := (nI 0)) hx hb dX6_fits_89 (by decide) ?_
          refine x_iadd M (n := ρ 5) dX6_fits_90 (by omega) ?_
          refine x_cgt M (tgt := 98) (by omega) (by omega) dX6_fits_91 (by decide) (fun c_33 => ?_) (fun c_33 => ?_)
          · refine lv_iconst (v := (nI 0)) hx hb dX6_fits_98 (by decide) ?_
            exact L99 false (by have hS0 : rmA ρ mq 0 = ρ 5 + 0 := (by unfold rmA; rw [if_neg (fun z => c_32 ((mw_nI (by decide) (by omega)).mpr z))]); exact (decide_eq_false (fun z => by have z2 := z; rw [hS0] at z2; omega)).symm) _ _ hw _ (lv_sub hl [0, 1, 2, 3, 4] rfl)
          refine lv_iconst (v := (nI 1)) hx hb dX6_fits_94 (by decide) ?_
          refine lv_goto (tgt := 99) hx hb dX6_fits_95 (by decide) ?_
          exact L99 true (by have hS0 : rmA ρ mq 0 = ρ 5 + 0 := (by unfold rmA; rw [if_neg (fun z => c_32 ((mw_nI (by decide) (by omega)).mpr z))]); exact (decide_eq_true (by rw [hS0]; omega)).symm) _ _ hw _ (lv_sub hl [0, 1, 2, 3, 4] rfl)
        refine lv_iconst (v := (nI 1)) hx hb dX6_fits_85 (by decide) ?_
        refine lv_goto (tgt := 90) hx hb dX6_fits_86 (by decide) ?_
        refine x_iadd M (n := 1 + ρ 5) dX6_fits_90 (by omega) ?_
        refine x_cgt M (tgt := 98) (by omega) (by omega) dX6_fits_91 (by decide) (fun c_34 => ?_) (fun c_34 => ?_)
        · refine lv_iconst (v := (nI 0)) hx hb dX6_fits_98 (by decide) ?_
          exact L99 false (by have hS0 : rmA ρ mq 0 = ρ 5 + 1 := (by unfold rmA; rw [if_pos ((mw_nI (by decide) (by omega)).mp c_32)]); exact (decide_eq_false (fun z => by have z2 := z; rw [hS0] at z2; omega)).symm) _ _ hw _ (lv_sub hl [0, 1, 2, 3, 4] rfl)
        refine lv_iconst (v := (nI 1)) hx hb dX6_fits_94 (by decide) ?_
        refine lv_goto (tgt := 99) hx hb dX6_fits_95 (by decide) ?_
        exact L99 true (by have hS0 : rmA ρ mq 0 = ρ 5 + 1 := (by unfold rmA; rw [if_pos ((mw_nI (by decide) (by omega)).mp c_32)]); exact (decide_eq_true (by rw [hS0]; omega)).symm) _ _ hw _ (lv_sub hl [0, 1, 2, 3, 4] rfl)
      have htb := htr b (by omega)
      have hpk := hI.pck (j := b) (by omega) rfl
      refine lv_iload hx hb dX6_fits_29 (lv_at hl 5 rfl) ?_
      refine lv_aload_n hx hb dX6_fits_31 rfl (lv_at hl 0 rfl) ?_
      refine x_get M hK hw 0 0 rfl rfl ff_X6_29 rfl dX6_fits_32 ?_
      refine lv_iload hx hb dX6_fits_35 (lv_at hl 6 rfl) ?_
      refine x_iald M hK hw 1 0 rfl rfl (by omega) (by decide) dX6_fits_37 ?_
      refine x_topN (n := tr1 b) rfl ?_
      refine x_zne M (tgt := 45) (by omega) dX6_fits_38 (by decide) (fun c_35 => ?_) (fun c_35 => ?_)
      · refine lv_aload_n hx hb dX6_fits_45 rfl (lv_at hl 1 rfl) ?_
        refine lv_iload hx hb dX6_fits_46 (lv_at hl 6 rfl) ?_
        refine lv_aload_n hx hb dX6_fits_48 rfl (lv_at hl 0 rfl) ?_
        refine x_get M hK hw 0 0 rfl rfl ff_X6_29 rfl dX6_fits_49 ?_
        refine lv_iload hx hb dX6_fits_52 (lv_at hl 6 rfl) ?_
        refine x_iald M hK hw 1 0 rfl rfl (by omega) (by decide) dX6_fits_54 ?_
        refine x_topN (n := tr1 b) rfl ?_
        refine lv_iconst (v := (nI 1)) hx hb dX6_fits_55 (by decide) ?_
        refine x_isub M (n := (tr1 b - 1)) dX6_fits_56 (by omega) ?_
        refine lv_iload hx hb dX6_fits_57 (lv_at hl 4 rfl) ?_
        refine x_cSI (As := [.ref a, .int (nI b), .int (nI (tr1 b - 1)), .int (nI 0)]) (k_X6_packOf l G Y a b (tr1 b - 1) 0 ρ (hI) (by omega) (by omega) (by omega)) cw_X6_91 [2] M hK hZ hw hl.1 rfl (by decide) ⟨by decide, by decide⟩ ⟨Nat.zero_le _, Nat.zero_le _⟩ rfl rfl (Nat.le_of_ble_eq_true rfl) dX6_fits_59 (fun r sg h_36 H locs hw => ?_)
        obtain ⟨rfl, rfl⟩ := h_36
        have hw : xW G A s.heap [[(mo, .inr (5, [.int (nI rf), .ref tx, .int (nI sz), .ref nw, .ref tr, .ref dy, .int (nI ac), .ref kp, .ref ik, .ref td, .ref ch, .int (nI sp), .int (nI ou)]))], [(td, .inl (Y 0, 6, .inl (rowF tr1)))], [(a, .inl (Y 0, 140, .inl (rowF ρ)))]] H locs := hw
        have q_37 : lotOf ρ b (tr1 b - 1) 0 ≤ 9 := lotOf_le hI (by omega) (by omega) (by omega)
        refine x_iadd M (n := x + lotOf ρ b (tr1 b - 1) 0) dX6_fits_62 rfl ?_
        refine lv_istore (lv' := [(5, .int (nI (x + lotOf ρ b (tr1 b - 1) 0))), (0, .ref mo), (1, .ref a), (2, .int (mw mq)), (3, .int (nI 1)), (4, .int (nI 0)), (6, .int (nI b))]) hx hb dX6_fits_63 hl (by decide) rfl (fun ls hl => ?_)
        refine lv_iinc (v := (nI (1 + b))) (lv' := [(6, .int (nI (1 + b))), (5, .int (nI (x + lotOf ρ b (tr1 b - 1) 0))), (0, .ref mo), (1, .ref a), (2, .int (mw mq)), (3, .int (nI 1)), (4, .int (nI 0))]) hx hb dX6_fits_65 hl (k := 6) rfl (by rw [show (1 : Int) = ((1 : Nat) : Int) from rfl, nI_inc]; exact congrArg nI (by omega)) (by decide) rfl (fun ls hl => ?_)
        refine lv_goto (tgt := 21) hx hb dX6_fits_68 (by decide) ?_
        exact ih21 (1 + b) (x + lotOf ρ b (tr1 b - 1) 0) (by omega) (by omega) (by rw [sumB_1, ← hx1]; unfold lOf; rw [if_neg (by omega)]) (by omega) _ _ hw _ (lv_sub hl [2, 3, 4, 5, 6, 1, 0] rfl)
      refine lv_iconst (v := (nI 0)) hx hb dX6_fits_41 (by decide) ?_
      refine lv_goto (tgt := 62) hx hb dX6_fits_42 (by decide) ?_
      refine x_iadd M (n := x) dX6_fits_62 (by omega) ?_
      refine lv_istore (lv' := [(5, .int (nI x)), (0, .ref mo), (1, .ref a), (2, .int (mw mq)), (3, .int (nI 1)), (4, .int (nI 0)), (6, .int (nI b))]) hx hb dX6_fits_63 hl (by decide) rfl (fun ls hl => ?_)
      refine lv_iinc (v := (nI (1 + b))) (lv' := [(6, .int (nI (1 + b))), (5, .int (nI x)), (0, .ref mo), (1, .ref a), (2, .int (mw mq)), (3, .int (nI 1)), (4, .int (nI 0))]) hx hb dX6_fits_65 hl (k := 6) rfl (by rw [show (1 : Int) = ((1 : Nat) : Int) from rfl, nI_inc]; exact congrArg nI (by omega)) (by decide) rfl (fun ls hl => ?_)
      refine lv_goto (tgt := 21) hx hb dX6_fits_68 (by decide) ?_
      exact ih21 (1 + b) x (by omega) (by omega) (by rw [sumB_1, ← hx1]; unfold lOf; rw [if_pos (by omega)]; rfl) (by omega) _ _ hw _ (lv_sub hl [2, 3, 4, 5, 6, 1, 0] rfl)
  exact L21 (ρ 4 - 0 + 1) 0 0 (Nat.lt_succ_self _) (by omega) (rfl) (by omega) _ _ hw _ (lv_sub hl [4, 5, 6, 3, 2, 1, 0] rfl)
set_option maxHeartbeats 4000000 in
set_option maxRecDepth 20000 in
theorem k_X6_assign (l : Launch) (G : va_G) (Y : Nat → Nat) (mo rf tx sz nw tr dy ac kp ik td ch sp ou a : Nat) (tr1 ch1 : Nat → Nat) (ρ : Nat → Nat) (w mq : Nat) (hI : Inv ρ) (hw6 : w ≤ 6) (hm6 : mq ≤ 3) : CtI l yX6_assign cX6_assign 11 .int 3 71 [.ref mo, .ref a, .int (mw w), .int (mw mq)] [[(mo, .inr (5, [.int (nI rf), .ref tx, .int (nI sz), .ref nw, .ref tr, .ref dy, .int (nI ac), .ref kp, .ref ik, .ref td, .ref ch, .int (nI sp), .int (nI ou)]))], [(td, .inl (Y 0, 6, .inl (rowF tr1)))], [(ch, .inl (Y 0, 6, .inl (rowF ch1)))], [(a, .inl (Y 0, 140, .inl (rowF ρ)))]] (fun r sg => r = nI (worA ρ w mq) ∧ ∃ (tr' ch' : Nat → Nat), (∀ q, q < ρ 4 → ch' q = choA ρ w mq q) ∧ sg = [[(mo, .inr (5, [.int (nI rf), .ref tx, .int (nI sz), .ref nw, .ref tr, .ref dy, .int (nI ac), .ref kp, .ref ik, .ref td, .ref ch, .int (nI sp), .int (nI ou)]))], [(td, .inl (Y 0, 6, .inl (rowF tr')))], [(ch, .inl (Y 0, 6, .inl (rowF ch')))], [(a, .inl (Y 0, 140, .inl (rowF ρ)))]]) G Y := by
  refine x_ofI (by decide) (Nat.le_of_ble_eq_true rfl) (fun p e s m args below meth c A ls Q M hK hZ hw hl hret => ?_)
  obtain ⟨hx, hb, -⟩ := id M
  have hl : lv_has ls 11 [(0, .ref mo), (1, .ref a), (2, .int (mw w)), (3, .int (mw mq))] := hl
  have := hI.n6
  have := hI.over
  have := hI.keep
  have := hI.stepp
  refine lv_iconst (v := (mw 0)) hx hb dX6_assign_0 (by decide) ?_
  refine lv_istore (lv' := [(4, .int (mw 0)), (0, .ref mo), (1, .ref a), (2, .int (mw w)), (3, .int (mw mq))]) hx hb dX6_assign_1 hl (by decide) rfl (fun ls hl => ?_)
  refine lv_iconst (v := (nI 1)) hx hb dX6_assign_3 (by decide) ?_
  refine lv_istore (lv' := [(5, .int (nI 1)), (4, .int (mw 0)), (0, .ref mo), (1, .ref a), (2, .int (mw w)), (3, .int (mw mq))]) hx hb dX6_assign_4 hl (by decide) rfl (fun ls hl => ?_)
  refine lv_iconst (v := (nI 0)) hx hb dX6_assign_6 (by decide) ?_
  refine lv_istore (lv' := [(6, .int (nI 0)), (5, .int (nI 1)), (4, .int (mw 0)), (0, .ref mo), (1, .ref a), (2, .int (mw w)), (3, .int (mw mq))]) hx hb dX6_assign_7 hl (by decide) rfl (fun ls hl => ?_)
  have L9 : ∀ (fu : Nat) (i : Nat) (x : Nat), (ρ 4 - i < fu) → (i ≤ ρ 4) → (x = 5 ^ i) → ∀ (H : Heap) (locs : List Loc), xW G A s.heap [[(mo, .inr (5, [.int (nI rf), .ref tx, .int (nI sz), .ref nw, .ref tr, .ref dy, .int (nI ac), .ref kp, .ref ik, .ref td, .ref ch, .int (nI sp), .int (nI ou)]))], [(td, .inl (Y 0, 6, .inl (rowF tr1)))], [(ch, .inl (Y 0, 6, .inl (rowF ch1)))], [(a, .inl (Y 0, 140, .inl (rowF ρ)))]] H locs → ∀ (ls : Array Slot), lv_has ls 11 [(0, .ref mo), (1, .ref a), (2, .int (mw w)), (3, .int (mw mq)), (4, .int (mw 0)), (5, .int (nI x)), (6, .int (nI i))] → W p l e (xRm 3 71) s m args below meth c H locs 0 0 Q (F0 m 9 ls []) := by
    intro fu
    induction fu with
    | zero => intro i x hm; exact absurd hm (Nat.not_lt_zero _)
    | succ fu ih9 =>
      intro i x hm hi hx5 H locs hw ls hl
      refine lv_iload hx hb dX6_assign_9 (lv_at hl 6 rfl) ?_
      refine lv_aload_n hx hb dX6_assign_11 rfl (lv_at hl 1 rfl) ?_
      refine lv_iconst (v := (nI 4)) hx hb dX6_assign_12 (by decide) ?_
      refine x_iald M hK hw 3 0 rfl rfl (by decide) (by decide) dX6_assign_13 ?_
      refine x_topN (n := ρ 4) rfl ?_
      have q_1 : ρ 4 ≤ 6 := hI.n6
      refine x_cge M (tgt := 29) (by omega) (by omega) dX6_assign_14 (by decide) (fun c_2 => ?_) (fun c_2 => ?_)
      · obtain rfl : i = ρ 4 := by omega
        have hx15 : x ≤ 15625 := by rw [hx5]; exact pow5 hI.n6
        refine lv_iconst (v := (nI 0)) hx hb dX6_assign_29 (by decide) ?_
        refine lv_istore (lv' := [(6, .int (nI 0)), (0, .ref mo), (1, .ref a), (2, .int (mw w)), (3, .int (mw mq)), (4, .int (mw 0)), (5, .int (nI x))]) hx hb dX6_assign_30 hl (by decide) rfl (fun ls hl => ?_)
        have L32 : ∀ (fu : Nat) (t : Nat) (tr2 : Nat → Nat) (ch2 : Nat → Nat), (x - t < fu) → (t ≤ x) → (BTm ρ ch2 (FZ ρ w mq t)) → ∀ (H : Heap) (locs : List Loc), xW G A s.heap [[(mo, .inr (5, [.int (nI rf), .ref tx, .int (nI sz), .ref nw, .ref tr, .ref dy, .int (nI ac), .ref kp, .ref ik, .ref td, .ref ch, .int (nI sp), .int (nI ou)]))], [(td, .inl (Y 0, 6, .inl (rowF tr2)))], [(ch, .inl (Y 0, 6, .inl (rowF ch2)))], [(a, .inl (Y 0, 140, .inl (rowF ρ)))]] H locs → ∀ (ls : Array Slot), lv_has ls 11 [(0, .ref mo), (1, .ref a), (2, .int (mw w)), (3, .int (mw mq)), (4, .int (mw (FZ ρ w mq t).1)), (5, .int (nI x)), (6, .int (nI t))] → W p l e (xRm 3 71) s m args below meth c H locs 0 0 Q (F0 m 32 ls []) := by
          intro fu
          induction fu with
          | zero => intro t tr2 ch2 hm; exact absurd hm (Nat.not_lt_zero _)
          | succ fu ih32 =>
            intro t tr2 ch2 hm ht hbm H locs hw ls hl
            have hgz := FZ_good (w := w) (m := mq) (t := t) hI
            refine lv_iload hx hb dX6_assign_32 (lv_at hl 6 rfl) ?_
            refine lv_iload hx hb dX6_assign_34 (lv_at hl 5 rfl) ?_
            refine x_cge M (tgt := 236) (by omega) (by omega) dX6_assign_36 (by decide) (fun c_3 => ?_) (fun c_3 => ?_)
            · obtain rfl : t = x := by omega
              have hEE : FZ ρ w mq t = bestA ρ w mq := by rw [hx5]; rfl
              have hcc : ∀ q, q < ρ 4 → ch2 q = choA ρ w mq q := by rw [hEE] at hbm; exact hbm.resolve_left (by have := bestA_pos (ρ := ρ) (m := mq) hw6; omega)
              refine lv_iload hx hb dX6_assign_236 (lv_at hl 4 rfl) ?_
              exact hret _ _ _ (mw (FZ ρ w mq t).1) _ _ dX6_assign_238 hw rfl rfl ⟨by rw [hEE]; exact mw_p (bestA_pos hw6), tr2, ch2, hcc, rfl⟩
            refine lv_iload hx hb dX6_assign_39 (lv_at hl 6 rfl) ?_
            refine lv_istore (lv' := [(7, .int (nI t)), (0, .ref mo), (1, .ref a), (2, .int (mw w)), (3, .int (mw mq)), (4, .int (mw (FZ ρ w mq t).1)), (5, .int (nI x)), (6, .int (nI t))]) hx hb dX6_assign_41 hl (by decide) rfl (fun ls hl => ?_)
            refine lv_iconst (v := (nI 1)) hx hb dX6_assign_43 (by decide) ?_
            refine lv_istore (lv' := [(8, .int (nI 1)), (7, .int (nI t)), (0, .ref mo), (1, .ref a), (2, .int (mw w)), (3, .int (mw mq)), (4, .int (mw (FZ ρ w mq t).1)), (5, .int (nI x)), (6, .int (nI t))]) hx hb dX6_assign_44 hl (by decide) rfl (fun ls hl => ?_)
            refine lv_iconst (v := (nI 0)) hx hb dX6_assign_46 (by decide) ?_
            refine lv_istore (lv' := [(9, .int (nI 0)), (8, .int (nI 1)), (7, .int (nI t)), (0, .ref mo), (1, .ref a), (2, .int (mw w)), (3, .int (mw mq)), (4, .int (mw (FZ ρ w mq t).1)), (5, .int (nI x)), (6, .int (nI t))]) hx hb dX6_assign_47 hl (by decide) rfl (fun ls hl => ?_)
            refine lv_aload_n hx hb dX6_assign_49 rfl (lv_at hl 4 rfl) ?_
            refine lv_iconst (v := (nI 4)) hx hb dX6_assign_50 (by decide) ?_
            refine x_iald M hK hw 3 0 rfl rfl (by decide) (by decide) dX6_assign_51 ?_
            refine x_topN (n := ρ 4) rfl ?_
            refine lv_iconst (v := (nI 1)) hx hb dX6_assign_52 (by decide) ?_
            refine lv_isub hx hb dX6_assign_53 ?_
            refine x_topI (y := (mw (ρ 4))) mw_sub1 ?_
            refine lv_istore (lv' := [(10, .int (mw (ρ 4))), (9, .int (nI 0)), (8, .int (nI 1)), (7, .int (nI t)), (0, .ref mo), (1, .ref a), (2, .int (mw w)), (3, .int (mw mq)), (4, .int (mw (FZ ρ w mq t).1)), (5, .int (nI x)), (6, .int (nI t))]) hx hb dX6_assign_54 hl (by decide) rfl (fun ls hl => ?_)
            have L56 : ∀ (fu : Nat) (b : Nat) (lc : Nat) (f1 : Bool) (ag : Nat) (tr3 : Nat → Nat), (b < fu) → (b ≤ ρ 4) → (lc ≤ 15625) → (ASt ρ w t b lc f1 ag tr3) → (ag ≤ (ρ 4 - b) * 2699973) → ∀ (H : Heap) (locs : List Loc), xW G A s.heap [[(mo, .inr (5, [.int (nI rf), .ref tx, .int (nI sz), .ref nw, .ref tr, .ref dy, .int (nI ac), .ref kp, .ref ik, .ref td, .ref ch, .int (nI sp), .int (nI ou)]))], [(td, .inl (Y 0, 6, .inl (rowF tr3)))], [(ch, .inl (Y 0, 6, .inl (rowF ch2)))], [(a, .inl (Y 0, 140, .inl (rowF ρ)))]] H locs → ∀ (ls : Array Slot), lv_has ls 11 [(0, .ref mo), (1, .ref a), (2, .int (mw w)), (3, .int (mw mq)), (4, .int (mw (FZ ρ w mq t).1)), (5, .int (nI x)), (6, .int (nI t)), (7, .int (nI lc)), (8, .int (b2i f1)), (9, .int (nI ag)), (10, .int (mw b))] → W p l e (xRm 3 71) s m args below meth c H locs 0 0 Q (F0 m 56 ls []) := by
              intro fu
              induction fu with
              | zero => intro b lc f1 ag tr3 hm; exact absurd hm (Nat.not_lt_zero _)
              | succ fu ih56 =>
                intro b lc f1 ag tr3 hm hb1 hlc has hag H locs hw ls hl
                refine lv_iload hx hb dX6_assign_56 (lv_at hl 10 rfl) ?_
                refine lv_if_lt (tgt := 174) hx hb dX6_assign_58 (by decide) (fun c_4 => ?_) (fun c_4 => ?_)
                · obtain rfl : b = 0 := (mw_neg (n := b) (by omega)).mp c_4
                  refine lv_iload hx hb dX6_assign_174 (lv_at hl 8 rfl) ?_
                  refine x_beq M (tgt := 230) dX6_assign_176 (by decide) (fun c_5 => ?_) (fun c_5 => ?_)
                  · have hZ1 := FZ_skip (ρ := ρ) (w := w) (m := mq) (t := t) (fun z => has.2.1 c_5 z.1.1)
                    rw [← hZ1] at hl
                    refine lv_iinc (v := (nI (1 + t))) (lv' := [(6, .int (nI (1 + t))), (0, .ref mo), (1, .ref a), (2, .int (mw w)), (3, .int (mw mq)), (4, .int (mw (FZ ρ w mq (1 + t)).1)), (5, .int (nI x)), (7, .int (nI lc)), (8, .int (b2i f1)), (9, .int (nI ag)), (10, .int (mw 0))]) hx hb dX6_assign_230 hl (k := 6) rfl (by rw [show (1 : Int) = ((1 : Nat) : Int) from rfl, nI_inc]; exact congrArg nI (by omega)) (by decide) rfl (fun ls hl => ?_)
                    refine lv_goto (tgt := 32) hx hb dX6_assign_233 (by decide) ?_
                    exact ih32 (1 + t) tr3 ch2 (by omega) (by omega) (by rw [hZ1]; exact hbm) _ _ hw _ (lv_sub hl [1, 2, 3, 4, 5, 6, 0] rfl)
                  have hae := as_end (by rw [c_5] at has; exact has)
                  have hae2 := hae.2.1
                  refine lv_iload hx hb dX6_assign_179 (lv_at hl 9 rfl) ?_
                  refine lv_iload hx hb dX6_assign_181 (lv_at hl 4 rfl) ?_
                  refine lv_icmp_le (tgt := 230) hx hb dX6_assign_183 (by decide) (fun c_6 => ?_) (fun c_6 => ?_)
                  · have hZ1 := FZ_skip (ρ := ρ) (w := w) (m := mq) (t := t) (fun z => by have hq := (nI_le_mw (by omega) (by omega)).mp c_6; have := z.2; omega)
                    rw [← hZ1] at hl
                    refine lv_iinc (v := (nI (1 + t))) (lv' := [(6, .int (nI (1 + t))), (0, .ref mo), (1, .ref a), (2, .int (mw w)), (3, .int (mw mq)), (4, .int (mw (FZ ρ w mq (1 + t)).1)), (5, .int (nI x)), (7, .int (nI lc)), (8, .int (b2i f1)), (9, .int (nI ag)), (10, .int (mw 0))]) hx hb dX6_assign_230 hl (k := 6) rfl (by rw [show (1 : Int) = ((1 : Nat) : Int) from rfl, nI_inc]; exact congrArg nI (by omega)) (by decide) rfl (fun ls hl => ?_)
                    refine lv_goto (tgt := 32) hx hb dX6_assign_233 (by decide) ?_
                    exact ih32 (1 + t) tr3 ch2 (by omega) (by omega) (by rw [hZ1]; exact hbm) _ _ hw _ (lv_sub hl [1, 2, 3, 4, 5, 6, 0] rfl)
                  refine lv_aload_n hx hb dX6_assign_186 rfl (lv_at hl 0 rfl) ?_
                  refine lv_aload_n hx hb dX6_assign_187 rfl (lv_at hl 1 rfl) ?_
                  refine lv_iload_n hx hb dX6_assign_188 rfl (lv_at hl 3 rfl) ?_
                  refine x_cVI (As := [.ref a, .int (mw mq)]) (k_X6_fits l G Y mo rf tx sz nw tr dy ac kp ik td ch sp ou a tr3 ρ mq (hI) (hm6) (fun q hq => by rw [hae.2.2 q hq]; exact dP_ok hae.1 hq)) cw_X6_95 [0, 1, 3] 0 0 M hK hZ hw hl.1 rfl (by decide) rfl rfl rfl ⟨by decide, by decide⟩ ⟨Nat.zero_le _, Nat.zero_le _⟩ rfl rfl (Nat.le_of_ble_eq_true rfl) dX6_assign_189 (fun r sg h_7 H locs hw => ?_)
                  obtain ⟨rfl, rfl⟩ := h_7
                  have hw : xW G A s.heap [[(mo, .inr (5, [.int (nI rf), .ref tx, .int (nI sz), .ref nw, .ref tr, .ref dy, .int (nI ac), .ref kp, .ref ik, .ref td, .ref ch, .int (nI sp), .int (nI ou)]))], [(td, .inl (Y 0, 6, .inl (rowF tr3)))], [(ch, .inl (Y 0, 6, .inl (rowF ch2)))], [(a, .inl (Y 0, 140, .inl (rowF ρ)))]] H locs := hw
                  refine x_beq M (tgt := 230) dX6_assign_192 (by decide) (fun c_8 => ?_) (fun c_8 => ?_)
                  · have hZ1 := FZ_skip (ρ := ρ) (w := w) (m := mq) (t := t) (fun z => of_decide_eq_false c_8 ((fitS_eq hae.2.2 hae.1).mpr z.1))
                    rw [← hZ1] at hl
                    refine lv_iinc (v := (nI (1 + t))) (lv' := [(6, .int (nI (1 + t))), (0, .ref mo), (1, .ref a), (2, .int (mw w)), (3, .int (mw mq)), (4, .int (mw (FZ ρ w mq (1 + t)).1)), (5, .int (nI x)), (7, .int (nI lc)), (8, .int (b2i f1)), (9, .int (nI ag)), (10, .int (mw 0))]) hx hb dX6_assign_230 hl (k := 6) rfl (by rw [show (1 : Int) = ((1 : Nat) : Int) from rfl, nI_inc]; exact congrArg nI (by omega)) (by decide) rfl (fun ls hl => ?_)
                    refine lv_goto (tgt := 32) hx hb dX6_assign_233 (by decide) ?_
                    exact ih32 (1 + t) tr3 ch2 (by omega) (by omega) (by rw [hZ1]; exact hbm) _ _ hw _ (lv_sub hl [1, 2, 3, 4, 5, 6, 0] rfl)
                  have hfz := (fitS_eq hae.2.2 hae.1).mp (of_decide_eq_true c_8)
                  have hgt : (FZ ρ w mq t).1 ≤ wP ρ (ρ 4) t := by have hq := mt (nI_le_mw (by omega) (by omega)).mpr c_6; omega
                  have hZ1 := FZ_take hfz hgt
                  refine lv_iload hx hb dX6_assign_195 (lv_at hl 9 rfl) ?_
                  refine x_topI (y := mw (FZ ρ w mq (1 + t)).1) (by rw [hZ1]; show nI ag = mw (wP ρ (ρ 4) t + 1); rw [mw_s, hae2]) ?_
                  refine lv_istore (lv' := [(4, .int (mw (FZ ρ w mq (1 + t)).1)), (0, .ref mo), (1, .ref a), (2, .int (mw w)), (3, .int (mw mq)), (5, .int (nI x)), (6, .int (nI t)), (7, .int (nI lc)), (8, .int (b2i f1)), (9, .int (nI ag)), (10, .int (mw 0))]) hx hb dX6_assign_197 hl (by decide) rfl (fun ls hl => ?_)
                  refine lv_iconst (v := (nI 0)) hx hb dX6_assign_199 (by decide) ?_
                  refine lv_istore (lv' := [(10, .int (nI 0)), (4, .int (mw (FZ ρ w mq (1 + t)).1)), (0, .ref mo), (1, .ref a), (2, .int (mw w)), (3, .int (mw mq)), (5, .int (nI x)), (6, .int (nI t)), (7, .int (nI lc)), (8, .int (b2i f1)), (9, .int (nI ag))]) hx hb dX6_assign_200 hl (by decide) rfl (fun ls hl => ?_)
                  have L202 : ∀ (fu : Nat) (i2 : Nat) (ch3 : Nat → Nat), (ρ 4 - i2 < fu) → (i2 ≤ ρ 4) → (∀ q, q < i2 → ch3 q = tr3 q) → ∀ (H : Heap) (locs : List Loc), xW G A s.heap [[(mo, .inr (5, [.int (nI rf), .ref tx, .int (nI sz), .ref nw, .ref tr, .ref dy, .int (nI ac), .ref kp, .ref ik, .ref td, .ref ch, .int (nI sp), .int (nI ou)]))], [(td, .inl (Y 0, 6, .inl (rowF tr3)))], [(ch, .inl (Y 0, 6, .inl (rowF ch3)))], [(a, .inl (Y 0, 140, .inl (rowF ρ)))]] H locs → ∀ (ls : Array Slot), lv_has ls 11 [(0, .ref mo), (1, .ref a), (2, .int (mw w)), (3, .int (mw mq)), (4, .int (mw (FZ ρ w mq (1 + t)).1)), (5, .int (nI x)), (6, .int (nI t)), (10, .int (nI i2))] → W p l e (xRm 3 71) s m args below meth c H locs 0 0 Q (F0 m 202 ls []) := by
                    intro fu
                    induction fu with
                    | zero => intro i2 ch3 hm; exact absurd hm (Nat.not_lt_zero _)
                    | succ fu ih202 =>
                      intro i2 ch3 hm hi2 hch H locs hw ls hl
                      refine lv_iload hx hb dX6_assign_202 (lv_at hl 7 rfl) ?_
                      refine lv_aload_n hx hb dX6_assign_204 rfl (lv_at hl 1 rfl) ?_
                      refine lv_iconst (v := (nI 4)) hx hb dX6_assign_205 (by decide) ?_
                      refine x_iald M hK hw 3 0 rfl rfl (by decide) (by decide) dX6_assign_206 ?_
                      refine x_topN (n := ρ 4) rfl ?_
                      refine x_cge M (tgt := 230) (by omega) (by omega) dX6_assign_207 (by decide) (fun c_9 => ?_) (fun c_9 => ?_)
                      · refine lv_iinc (v := (nI (1 + t))) (lv' := [(6, .int (nI (1 + t))), (0, .ref mo), (1, .ref a), (2, .int (mw w)), (3, .int (mw mq)), (4, .int (mw (FZ ρ w mq (1 + t)).1)), (5, .int (nI x)), (10, .int (nI i2))]) hx hb dX6_assign_230 hl (k := 6) rfl (by rw [show (1 : Int) = ((1 : Nat) : Int) from rfl, nI_inc]; exact congrArg nI (by omega)) (by decide) rfl (fun ls hl => ?_)
                        refine lv_goto (tgt := 32) hx hb dX6_assign_233 (by decide) ?_
                        exact ih32 (1 + t) tr3 ch3 (by omega) (by omega) (by rw [hZ1]; exact Or.inr (fun q hq => (hch q (by omega)).trans (hae.2.2 q hq))) _ _ hw _ (lv_sub hl [1, 2, 3, 4, 5, 6, 0] rfl)
                      refine lv_aload_n hx hb dX6_assign_210 rfl (lv_at hl 0 rfl) ?_
                      refine x_get M hK hw 0 0 rfl rfl ff_X6_32 rfl dX6_assign_211 ?_
                      refine lv_iload hx hb dX6_assign_214 (lv_at hl 7 rfl) ?_
                      refine lv_aload_n hx hb dX6_assign_216 rfl (lv_at hl 0 rfl) ?_
                      refine x_get M hK hw 0 0 rfl rfl ff_X6_29 rfl dX6_assign_217 ?_
                      refine lv_iload hx hb dX6_assign_220 (lv_at hl 7 rfl) ?_
                      refine x_iald M hK hw 1 0 rfl rfl (by omega) (by decide) dX6_assign_222 ?_
                      refine x_topN (n := tr3 i2) rfl ?_
                      refine x_iast M hK hw 2 0 rfl rfl (by omega) (by decide) dX6_assign_223 (fun H locs hw => ?_)
                      rw [upd_row] at hw
                      have hw : xW G A s.heap [[(mo, .inr (5, [.int (nI rf), .ref tx, .int (nI sz), .ref nw, .ref tr, .ref dy, .int (nI ac), .ref kp, .ref ik, .ref td, .ref ch, .int (nI sp), .int (nI ou)]))], [(td, .inl (Y 0, 6, .inl (rowF tr3)))], [(ch, .inl (Y 0, 6, .inl (rowF (setN ch3 i2 (tr3 i2)))))], [(a, .inl (Y 0, 140, .inl (rowF ρ)))]] H locs := hw
                      refine lv_iinc (v := (nI (1 + i2))) (lv' := [(10, .int (nI (1 + i2))), (0, .ref mo), (1, .ref a), (2, .int (mw w)), (3, .int (mw mq)), (4, .int (mw (FZ ρ w mq (1 + t)).1)), (5, .int (nI x)), (6, .int (nI t))]) hx hb dX6_assign_224 hl (k := 7) rfl (by rw [show (1 : Int) = ((1 : Nat) : Int) from rfl, nI_inc]; exact congrArg nI (by omega)) (by decide) rfl (fun ls hl => ?_)
                      refine lv_goto (tgt := 202) hx hb dX6_assign_227 (by decide) ?_
                      exact ih202 (1 + i2) (setN ch3 i2 (tr3 i2)) (by omega) (by omega) (fun q hq => by by_cases hz : q = i2; (subst hz; exact setN_s); (rw [setN_n hz]; exact hch q (by omega))) _ _ hw _ (lv_sub hl [1, 2, 3, 4, 5, 6, 7, 0] rfl)
                  exact L202 (ρ 4 - 0 + 1) 0 ch2 (Nat.lt_succ_self _) (by omega) (fun q hq => absurd hq (Nat.not_lt_zero _)) _ _ hw _ (lv_sub hl [2, 3, 4, 5, 1, 6, 7, 0] rfl)
                obtain ⟨j, rfl⟩ : ∃ j, b = j + 1 := ⟨b - 1, by have := mt (mw_neg (n := b) (by omega)).mpr c_4; omega⟩
                rw [mw_s] at hl
                have hpk := hI.pck (j := j) (by omega) rfl
                refine lv_aload_n hx hb dX6_assign_61 rfl (lv_at hl 0 rfl) ?_
                refine x_get M hK hw 0 0 rfl rfl ff_X6_29 rfl dX6_assign_62 ?_
                refine lv_iload hx hb dX6_assign_65 (lv_at hl 10 rfl) ?_
                refine lv_iload hx hb dX6_assign_67 (lv_at hl 7 rfl) ?_
                refine lv_iconst (v := (nI 5)) hx hb dX6_assign_69 (by decide) ?_
                refine x_irem M (n := lc % 5) dX6_assign_70 (by omega) (by omega) (by decide) rfl ?_
                refine x_iast M hK hw 1 0 rfl rfl (by omega) (by decide) dX6_assign_71 (fun H locs hw => ?_)
                rw [upd_row] at hw
                have hw : xW G A s.heap [[(mo, .inr (5, [.int (nI rf), .ref tx, .int (nI sz), .ref nw, .ref tr, .ref dy, .int (nI ac), .ref kp, .ref ik, .ref td, .ref ch, .int (nI sp), .int (nI ou)]))], [(td, .inl (Y 0, 6, .inl (rowF (setN tr3 j (lc % 5)))))], [(ch, .inl (Y 0, 6, .inl (rowF ch2)))], [(a, .inl (Y 0, 140, .inl (rowF ρ)))]] H locs := hw
                refine lv_iload hx hb dX6_assign_72 (lv_at hl 7 rfl) ?_
                refine lv_iconst (v := (nI 5)) hx hb dX6_assign_74 (by decide) ?_
                refine x_idiv M (n := lc / 5) dX6_assign_75 (by omega) (by omega) (by decide) rfl ?_
                refine lv_istore (lv' := [(7, .int (nI (lc / 5))), (0, .ref mo), (1, .ref a), (2, .int (mw w)), (3, .int (mw mq)), (4, .int (mw (FZ ρ w mq t).1)), (5, .int (nI x)), (6, .int (nI t)), (8, .int (b2i f1)), (9, .int (nI ag)), (10, .int (nI j))]) hx hb dX6_assign_76 hl (by decide) rfl (fun ls hl => ?_)
                have L126 : ∀ (f2 : Bool), (f2 = decide (f1 = true ∧ lc % 5 ≤ ρ (22 + 21 * j) + 1 ∧ (w = j + 1 → lc % 5 = 0))) → ∀ (H : Heap) (locs : List Loc), xW G A s.heap [[(mo, .inr (5, [.int (nI rf), .ref tx, .int (nI sz), .ref nw, .ref tr, .ref dy, .int (nI ac), .ref kp, .ref ik, .ref td, .ref ch, .int (nI sp), .int (nI ou)]))], [(td, .inl (Y 0, 6, .inl (rowF (setN tr3 j (lc % 5)))))], [(ch, .inl (Y 0, 6, .inl (rowF ch2)))], [(a, .inl (Y 0, 140, .inl (rowF ρ)))]] H locs → ∀ (ls : Array Slot), lv_has ls 11 [(0, .ref mo), (1, .ref a), (2, .int (mw w)), (3, .int (mw mq)), (4, .int (mw (FZ ρ w mq t).1)), (5, .int (nI x)), (6, .int (nI t)), (7, .int (nI (lc / 5))), (8, .int (b2i f1)), (9, .int (nI ag)), (10, .int (nI j))] → W p l e (xRm 3 71) s m args below meth c H locs 0 0 Q (F0 m 126 ls [.int (b2i f2)]) := by
                  intro f2 hf2 H locs hw ls hl
                  refine lv_istore (lv' := [(8, .int (b2i f2)), (0, .ref mo), (1, .ref a), (2, .int (mw w)), (3, .int (mw mq)), (4, .int (mw (FZ ρ w mq t).1)), (5, .int (nI x)), (6, .int (nI t)), (7, .int (nI (lc / 5))), (9, .int (nI ag)), (10, .int (nI j))]) hx hb dX6_assign_126 hl (by decide) rfl (fun ls hl => ?_)
                  refine lv_iload hx hb dX6_assign_128 (lv_at hl 9 rfl) ?_
                  refine lv_iload hx hb dX6_assign_130 (lv_at hl 0 rfl) ?_
                  refine x_beq M (tgt := 145) dX6_assign_132 (by decide) (fun c_10 => ?_) (fun c_10 => ?_)
                  · refine lv_iconst (v := (nI 0)) hx hb dX6_assign_145 (by decide) ?_
                    refine lv_goto (tgt := 165) hx hb dX6_assign_146 (by decide) ?_
                    refine x_iadd M (n := ag) dX6_assign_165 (by omega) ?_
                    refine lv_istore (lv' := [(9, .int (nI ag)), (8, .int (b2i f2)), (0, .ref mo), (1, .ref a), (2, .int (mw w)), (3, .int (mw mq)), (4, .int (mw (FZ ρ w mq t).1)), (5, .int (nI x)), (6, .int (nI t)), (7, .int (nI (lc / 5))), (10, .int (nI j))]) hx hb dX6_assign_166 hl (by decide) rfl (fun ls hl => ?_)
                    have hl : lv_has ls 11 [(9, .int (nI ag)), (8, .int (b2i f2)), (0, .ref mo), (1, .ref a), (2, .int (mw w)), (3, .int (mw mq)), (4, .int (mw (FZ ρ w mq t).1)), (5, .int (nI x)), (6, .int (nI t)), (7, .int (nI (lc / 5))), (10, .int (mw (j + 1)))] := by rw [mw_s]; exact hl
                    refine lv_iinc (v := ((mw (j + 1)) + Int32.ofInt (-1))) (lv' := [(10, .int ((mw (j + 1)) + Int32.ofInt (-1))), (9, .int (nI ag)), (8, .int (b2i f2)), (0, .ref mo), (1, .ref a), (2, .int (mw w)), (3, .int (mw mq)), (4, .int (mw (FZ ρ w mq t).1)), (5, .int (nI x)), (6, .int (nI t)), (7, .int (nI (lc / 5)))]) hx hb dX6_assign_168 hl (k := 10) rfl rfl (by decide) rfl (fun ls hl => ?_)
                    rw [mw_dec] at hl
                    refine lv_goto (tgt := 56) hx hb dX6_assign_171 (by decide) ?_
                    exact ih56 j (lc / 5) f2 ag (setN tr3 j (lc % 5)) (by omega) (by omega) (by omega) (as_1 hI (by omega) has hf2 (by rw [if_neg (by rw [c_10]; decide)]; omega)) ((as_1 hI (by omega) has hf2 (by rw [if_neg (by rw [c_10]; decide)]; omega)).2.2.2.2) _ _ hw _ (lv_sub hl [3, 4, 5, 6, 7, 8, 9, 10, 2, 1, 0] rfl)
                  refine lv_aload_n hx hb dX6_assign_135 rfl (lv_at hl 1 rfl) ?_
                  refine x_get M hK hw 0 0 rfl rfl ff_X6_29 rfl dX6_assign_136 ?_
                  refine lv_iload hx hb dX6_assign_139 (lv_at hl 10 rfl) ?_
                  refine x_iald M hK hw 1 0 rfl rfl (by omega) (by decide) dX6_assign_141 ?_
                  refine x_topN (n := (lc % 5)) (congrArg nI setN_s) ?_
                  refine x_zne M (tgt := 149) (by omega) dX6_assign_142 (by decide) (fun c_11 => ?_) (fun c_11 => ?_)
                  · have hf3 := of_decide_eq_true (hf2.symm.trans c_10)
                    have hf4 := hf3.2.1
                    refine lv_aload_n hx hb dX6_assign_149 rfl (lv_at hl 2 rfl) ?_
                    refine lv_iload hx hb dX6_assign_150 (lv_at hl 10 rfl) ?_
                    refine lv_aload_n hx hb dX6_assign_152 rfl (lv_at hl 1 rfl) ?_
                    refine x_get M hK hw 0 0 rfl rfl ff_X6_29 rfl dX6_assign_153 ?_
                    refine lv_iload hx hb dX6_assign_156 (lv_at hl 10 rfl) ?_
                    refine x_iald M hK hw 1 0 rfl rfl (by omega) (by decide) dX6_assign_158 ?_
                    refine x_topN (n := (lc % 5)) (congrArg nI setN_s) ?_
                    refine lv_iconst (v := (nI 1)) hx hb dX6_assign_159 (by decide) ?_
                    refine x_isub M (n := (lc % 5 - 1)) dX6_assign_160 (by omega) ?_
                    refine lv_iconst (v := (nI 3)) hx hb dX6_assign_161 (by decide) ?_
                    refine x_cSI (As := [.ref a, .int (nI j), .int (nI (lc % 5 - 1)), .int (nI 3)]) (k_X6_packOf3 l G Y a j (lc % 5 - 1) ρ (hI) (by omega) (by omega)) cw_X6_91 [3] M hK hZ hw hl.1 rfl (by decide) ⟨by decide, by decide⟩ ⟨Nat.zero_le _, Nat.zero_le _⟩ rfl rfl (Nat.le_of_ble_eq_true rfl) dX6_assign_162 (fun r sg h_12 H locs hw => ?_)
                    obtain ⟨rfl, rfl⟩ := h_12
                    have hw : xW G A s.heap [[(mo, .inr (5, [.int (nI rf), .ref tx, .int (nI sz), .ref nw, .ref tr, .ref dy, .int (nI ac), .ref kp, .ref ik, .ref td, .ref ch, .int (nI sp), .int (nI ou)]))], [(td, .inl (Y 0, 6, .inl (rowF (setN tr3 j (lc % 5)))))], [(ch, .inl (Y 0, 6, .inl (rowF ch2)))], [(a, .inl (Y 0, 140, .inl (rowF ρ)))]] H locs := hw
                    have q_13 : worOf ρ j (lc % 5 - 1) ≤ 2699973 := worOf_le hI (by omega) (by omega)
                    refine x_iadd M (n := ag + worOf ρ j (lc % 5 - 1)) dX6_assign_165 rfl ?_
                    refine lv_istore (lv' := [(9, .int (nI (ag + worOf ρ j (lc % 5 - 1)))), (8, .int (b2i f2)), (0, .ref mo), (1, .ref a), (2, .int (mw w)), (3, .int (mw mq)), (4, .int (mw (FZ ρ w mq t).1)), (5, .int (nI x)), (6, .int (nI t)), (7, .int (nI (lc / 5))), (10, .int (nI j))]) hx hb dX6_assign_166 hl (by decide) rfl (fun ls hl => ?_)
                    have hl : lv_has ls 11 [(9, .int (nI (ag + worOf ρ j (lc % 5 - 1)))), (8, .int (b2i f2)), (0, .ref mo), (1, .ref a), (2, .int (mw w)), (3, .int (mw mq)), (4, .int (mw (FZ ρ w mq t).1)), (5, .int (nI x)), (6, .int (nI t)), (7, .int (nI (lc / 5))), (10, .int (mw (j + 1)))] := by rw [mw_s]; exact hl
                    refine lv_iinc (v := ((mw (j + 1)) + Int32.ofInt (-1))) (lv' := [(10, .int ((mw (j + 1)) + Int32.ofInt (-1))), (9, .int (nI (ag + worOf ρ j (lc % 5 - 1)))), (8, .int (b2i f2)), (0, .ref mo), (1, .ref a), (2, .int (mw w)), (3, .int (mw mq)), (4, .int (mw (FZ ρ w mq t).1)), (5, .int (nI x)), (6, .int (nI t)), (7, .int (nI (lc / 5)))]) hx hb dX6_assign_168 hl (k := 10) rfl rfl (by decide) rfl (fun ls hl => ?_)
                    rw [mw_dec] at hl
                    refine lv_goto (tgt := 56) hx hb dX6_assign_171 (by decide) ?_
                    exact ih56 j (lc / 5) f2 (ag + worOf ρ j (lc % 5 - 1)) (setN tr3 j (lc % 5)) (by omega) (by omega) (by omega) (as_1 hI (by omega) has hf2 (by rw [if_pos c_10]; unfold wOf; rw [if_neg (by omega)])) ((as_1 hI (by omega) has hf2 (by rw [if_pos c_10]; unfold wOf; rw [if_neg (by omega)])).2.2.2.2) _ _ hw _ (lv_sub hl [3, 4, 5, 6, 7, 8, 9, 10, 2, 1, 0] rfl)
                  refine lv_iconst (v := (nI 0)) hx hb dX6_assign_145 (by decide) ?_
                  refine lv_goto (tgt := 165) hx hb dX6_assign_146 (by decide) ?_
                  refine x_iadd M (n := ag) dX6_assign_165 (by omega) ?_
                  refine lv_istore (lv' := [(9, .int (nI ag)), (8, .int (b2i f2)), (0, .ref mo), (1, .ref a), (2, .int (mw w)), (3, .int (mw mq)), (4, .int (mw (FZ ρ w mq t).1)), (5, .int (nI x)), (6, .int (nI t)), (7, .int (nI (lc / 5))), (10, .int (nI j))]) hx hb dX6_assign_166 hl (by decide) rfl (fun ls hl => ?_)
                  have hl : lv_has ls 11 [(9, .int (nI ag)), (8, .int (b2i f2)), (0, .ref mo), (1, .ref a), (2, .int (mw w)), (3, .int (mw mq)), (4, .int (mw (FZ ρ w mq t).1)), (5, .int (nI x)), (6, .int (nI t)), (7, .int (nI (lc / 5))), (10, .int (mw (j + 1)))] := by rw [mw_s]; exact hl
                  refine lv_iinc (v := ((mw (j + 1)) + Int32.ofInt (-1))) (lv' := [(10, .int ((mw (j + 1)) + Int32.ofInt (-1))), (9, .int (nI ag)), (8, .int (b2i f2)), (0, .ref mo), (1, .ref a), (2, .int (mw w)), (3, .int (mw mq)), (4, .int (mw (FZ ρ w mq t).1)), (5, .int (nI x)), (6, .int (nI t)), (7, .int (nI (lc / 5)))]) hx hb dX6_assign_168 hl (k := 10) rfl rfl (by decide) rfl (fun ls hl => ?_)
                  rw [mw_dec] at hl
                  refine lv_goto (tgt := 56) hx hb dX6_assign_171 (by decide) ?_
                  exact ih56 j (lc / 5) f2 ag (setN tr3 j (lc % 5)) (by omega) (by omega) (by omega) (as_1 hI (by omega) has hf2 (by rw [if_pos c_10]; unfold wOf; rw [if_pos (by omega)]; omega)) ((as_1 hI (by omega) has hf2 (by rw [if_pos c_10]; unfold wOf; rw [if_pos (by omega)]; omega)).2.2.2.2) _ _ hw _ (lv_sub hl [3, 4, 5, 6, 7, 8, 9, 10, 2, 1, 0] rfl)
                refine lv_iload hx hb dX6_assign_78 (lv_at hl 8 rfl) ?_
                refine x_beq M (tgt := 125) dX6_assign_80 (by decide) (fun c_14 => ?_) (fun c_14 => ?_)
                · refine lv_iconst (v := (nI 0)) hx hb dX6_assign_125 (by decide) ?_
                  exact L126 false ((decide_eq_false (fun z => by rw [c_14] at z; exact absurd z.1 (by decide))).symm) _ _ hw _ (lv_sub hl [1, 2, 3, 4, 5, 6, 7, 0, 8, 9, 10] rfl)
                refine lv_aload_n hx hb dX6_assign_83 rfl (lv_at hl 1 rfl) ?_
                refine x_get M hK hw 0 0 rfl rfl ff_X6_29 rfl dX6_assign_84 ?_
                refine lv_iload hx hb dX6_assign_87 (lv_at hl 10 rfl) ?_
                refine x_iald M hK hw 1 0 rfl rfl (by omega) (by decide) dX6_assign_89 ?_
                refine x_topN (n := (lc % 5)) (congrArg nI setN_s) ?_
                refine lv_aload_n hx hb dX6_assign_90 rfl (lv_at hl 2 rfl) ?_
                refine lv_iload hx hb dX6_assign_91 (lv_at hl 10 rfl) ?_
                refine x_cSI (As := [.int (nI j)]) (k_X6_at l G Y j) cw_X6_49 [] M hK hZ hw hl.1 rfl (by decide) ⟨by decide, by decide⟩ ⟨Nat.zero_le _, Nat.zero_le _⟩ rfl rfl (Nat.le_of_ble_eq_true rfl) dX6_assign_93 (fun r sg h_15 H locs hw => ?_)
                obtain ⟨rfl, rfl⟩ := h_15
                have hw : xW G A s.heap [[(mo, .inr (5, [.int (nI rf), .ref tx, .int (nI sz), .ref nw, .ref tr, .ref dy, .int (nI ac), .ref kp, .ref ik, .ref td, .ref ch, .int (nI sp), .int (nI ou)]))], [(td, .inl (Y 0, 6, .inl (rowF (setN tr3 j (lc % 5)))))], [(ch, .inl (Y 0, 6, .inl (rowF ch2)))], [(a, .inl (Y 0, 140, .inl (rowF ρ)))]] H locs := hw
                refine lv_bipush (v := (nI 8)) hx hb dX6_assign_96 (by decide) ?_
                refine x_iadd M (n := 22 + 21 * j) dX6_assign_98 (by omega) ?_
                refine x_iald M hK hw 3 0 rfl rfl (by omega) (by decide) dX6_assign_99 ?_
                refine x_topN (n := ρ (22 + 21 * j)) rfl ?_
                have q_16 : ρ (22 + 21 * j) ≤ 3 := hI.pck (j := j) (by omega) (by omega)
                refine lv_iconst (v := (nI 1)) hx hb dX6_assign_100 (by decide) ?_
                refine x_iadd M (n := 1 + ρ (22 + 21 * j)) dX6_assign_101 (by omega) ?_
                refine x_cgt M (tgt := 125) (by omega) (by omega) dX6_assign_102 (by decide) (fun c_17 => ?_) (fun c_17 => ?_)
                · refine lv_iconst (v := (nI 0)) hx hb dX6_assign_125 (by decide) ?_
                  exact L126 false ((decide_eq_false (fun z => by have := z.2.1; omega)).symm) _ _ hw _ (lv_sub hl [1, 2, 3, 4, 5, 6, 7, 0, 8, 9, 10] rfl)
                refine lv_iload hx hb dX6_assign_105 (lv_at hl 10 rfl) ?_
                refine lv_iload_n hx hb dX6_assign_107 rfl (lv_at hl 3 rfl) ?_
                refine lv_icmp_ne (tgt := 121) hx hb dX6_assign_108 (by decide) (fun c_18 => ?_) (fun c_18 => ?_)
                · refine lv_iconst (v := (nI 1)) hx hb dX6_assign_121 (by decide) ?_
                  refine lv_goto (tgt := 126) hx hb dX6_assign_122 (by decide) ?_
                  exact L126 true ((decide_eq_true ⟨c_14, by omega, fun z => absurd ((nI_mw (by omega) (by omega)).mpr z) c_18⟩).symm) _ _ hw _ (lv_sub hl [1, 2, 3, 4, 5, 6, 7, 0, 8, 9, 10] rfl)
                refine lv_aload_n hx hb dX6_assign_111 rfl (lv_at hl 1 rfl) ?_
                refine x_get M hK hw 0 0 rfl rfl ff_X6_29 rfl dX6_assign_112 ?_
                refine lv_iload hx hb dX6_assign_115 (lv_at hl 10 rfl) ?_
                refine x_iald M hK hw 1 0 rfl rfl (by omega) (by decide) dX6_assign_117 ?_
                refine x_topN (n := (lc % 5)) (congrArg nI setN_s) ?_
                refine x_zne M (tgt := 125) (by omega) dX6_assign_118 (by decide) (fun c_19 => ?_) (fun c_19 => ?_)
                · refine lv_iconst (v := (nI 0)) hx hb dX6_assign_125 (by decide) ?_
                  exact L126 false ((decide_eq_false (fun z => by have := z.2.2 ((nI_mw (by omega) (by omega)).mp c_18); omega)).symm) _ _ hw _ (lv_sub hl [1, 2, 3, 4, 5, 6, 7, 0, 8, 9, 10] rfl)
                refine lv_iconst (v := (nI 1)) hx hb dX6_assign_121 (by decide) ?_
                refine lv_goto (tgt := 126) hx hb dX6_assign_122 (by decide) ?_
                exact L126 true ((decide_eq_true ⟨c_14, by omega, fun _ => by omega⟩).symm) _ _ hw _ (lv_sub hl [1, 2, 3, 4, 5, 6, 7, 0, 8, 9, 10] rfl)
            exact L56 ((ρ 4) + 1) (ρ 4) t true 0 tr2 (Nat.lt_succ_self _) (by omega) (by omega) (as_0) (by omega) _ _ hw _ (lv_sub hl [4, 5, 6, 7, 8, 9, 10, 3, 2, 1, 0] rfl)
        exact L32 (x - 0 + 1) 0 tr1 ch1 (Nat.lt_succ_self _) (by omega) (Or.inl rfl) _ _ hw _ (lv_sub hl [1, 2, 3, 4, 5, 6, 0] rfl)
      refine lv_iload hx hb dX6_assign_17 (lv_at hl 5 rfl) ?_
      refine lv_iconst (v := (nI 5)) hx hb dX6_assign_19 (by decide) ?_
      refine x_imul M (n := 5 * x) dX6_assign_20 (by omega) ?_
      refine lv_istore (lv' := [(5, .int (nI (5 * x))), (0, .ref mo), (1, .ref a), (2, .int (mw w)), (3, .int (mw mq)), (4, .int (mw 0)), (6, .int (nI i))]) hx hb dX6_assign_21 hl (by decide) rfl (fun ls hl => ?_)
      refine lv_iinc (v := (nI (1 + i))) (lv' := [(6, .int (nI (1 + i))), (5, .int (nI (5 * x))), (0, .ref mo), (1, .ref a), (2, .int (mw w)), (3, .int (mw mq)), (4, .int (mw 0))]) hx hb dX6_assign_23 hl (k := 6) rfl (by rw [show (1 : Int) = ((1 : Nat) : Int) from rfl, nI_inc]; exact congrArg nI (by omega)) (by decide) rfl (fun ls hl => ?_)
      refine lv_goto (tgt := 9) hx hb dX6_assign_26 (by decide) ?_
      exact ih9 (1 + i) (5 * x) (by omega) (by omega) (by rw [hx5, Nat.add_comm 1 i, Nat.pow_succ, Nat.mul_comm]) _ _ hw _ (lv_sub hl [2, 3, 4, 5, 6, 1, 0] rfl)
  exact L9 (ρ 4 - 0 + 1) 0 1 (Nat.lt_succ_self _) (by omega) (rfl) _ _ hw _ (lv_sub hl [3, 4, 5, 6, 2, 1, 0] rfl)
