theorem mw_nI {a b : Nat} (ha : a < 2 ^ 30) (hb : b < 2 ^ 31) : mw b = nI a ↔ b = a + 1 := by rw [eq_comm]; exact nI_mw ha hb
set_option maxHeartbeats 4000000 in
set_option maxRecDepth 20000 in
theorem k_X0_find (l : Launch) (G : va_G) (Y : Nat → Nat) (z h : Nat) (lf : Nat → Nat) (tk bt : Nat → Int32) (bw : Int32) (ρ : Nat → Nat) (γ : Nat → Nat → Nat) (w mq : Nat) (hI : Inv ρ) (hw6 : w ≤ 6) (hm6 : mq ≤ 3) : CtI l yX0_find cX0_find 5 .int 15 413 [.ref z, .ref h, .int (mw w), .int (mw mq)] [asgW Y z lf tk bt bw, aucW Y h ρ γ] (fun r sg => r = nI (worA ρ w mq) ∧ ∃ (lf' : Nat → Nat) (tk' bt' : Nat → Int32), (∀ q, q < ρ 4 → bt' q = mw (choA ρ w mq q)) ∧ sg = [asgW Y z lf' tk' bt' (nI (worA ρ w mq)), aucW Y h ρ γ]) G Y := by
  refine x_ofI (by decide) (Nat.le_of_ble_eq_true rfl) (fun p e s m args below meth c A ls Q M hK hZ hw hl hret => ?_)
  obtain ⟨hx, hb, -⟩ := id M
  have hl : lv_has ls 5 [(0, .ref z), (1, .ref h), (2, .int (mw w)), (3, .int (mw mq))] := hl
  have := hI.n6
  have := hI.over
  have := hI.keep
  have := hI.stepp
  refine lv_iconst (v := (nI 0)) hx hb dX0_find_0 (by decide) ?_
  refine lv_istore (lv' := [(4, .int (nI 0)), (0, .ref z), (1, .ref h), (2, .int (mw w)), (3, .int (mw mq))]) hx hb dX0_find_1 hl (by decide) rfl (fun ls hl => ?_)
  refine lv_iload hx hb dX0_find_3 (lv_at hl 0 rfl) ?_
  refine lv_iconst (v := (nI 3)) hx hb dX0_find_5 (by decide) ?_
  refine x_cge M (tgt := 41) (by decide) (by decide) dX0_find_6 (by decide) (fun c_1 => absurd c_1 (by decide)) (fun c_1 => ?_)
  refine lv_aload_n hx hb dX0_find_9 rfl (lv_at hl 1 rfl) ?_
  refine x_get M hK hw 0 0 rfl rfl ff_X0_9 rfl dX0_find_10 ?_
  refine lv_iload hx hb dX0_find_13 (lv_at hl 0 rfl) ?_
  refine lv_aload_n hx hb dX0_find_15 rfl (lv_at hl 2 rfl) ?_
  refine x_get M hK hw 1 0 rfl rfl ff_X0_21 rfl dX0_find_16 ?_
  refine lv_iload hx hb dX0_find_19 (lv_at hl 0 rfl) ?_
  refine x_iald M hK hw 1 1 rfl rfl (by decide) (by decide) dX0_find_21 ?_
  refine x_topN (n := ρ 5) rfl ?_
  have q_2 : 1 ≤ ρ 5 := (hI.sup (q := 5) (k := 0) (by decide) rfl).1
  have q_3 : ρ 5 ≤ 9 := (hI.sup (q := 5) (k := 0) (by decide) rfl).2
  have L33 : ∀ (x0 : Nat), (x0 = if mq = 0 + 1 then 1 else 0) → ∀ (H : Heap) (locs : List Loc), xW G A s.heap [asgW Y z lf tk bt bw, aucW Y h ρ γ] H locs → ∀ (ls : Array Slot), lv_has ls 5 [(0, .ref z), (1, .ref h), (2, .int (mw w)), (3, .int (mw mq)), (4, .int (nI 0))] → W p l e (xRm 15 413) s m args below meth c H locs 0 0 Q (F0 m 33 ls [.int (nI x0), .int (nI (ρ 5)), .int (nI 0), .ref (z + 1)]) := by
    intro x0 hx0 H locs hw ls hl
    have hy0 : x0 ≤ 1 := by rw [hx0]; split <;> decide
    refine x_iadd M (n := ρ 5 + x0) dX0_find_33 rfl ?_
    refine x_iast M hK hw 0 1 rfl rfl (by decide) (by decide) dX0_find_34 (fun H locs hw => ?_)
    rw [upd_row] at hw
    have hw : xW G A s.heap [asgW Y z (setN lf 0 (ρ 5 + x0)) tk bt bw, aucW Y h ρ γ] H locs := hw
    refine lv_iinc (v := (nI 1)) (lv' := [(4, .int (nI 1)), (0, .ref z), (1, .ref h), (2, .int (mw w)), (3, .int (mw mq))]) hx hb dX0_find_35 hl (k := 4) rfl (by decide) (by decide) rfl (fun ls hl => ?_)
    refine lv_goto (tgt := 3) hx hb dX0_find_38 (by decide) ?_
    refine lv_iload hx hb dX0_find_3 (lv_at hl 0 rfl) ?_
    refine lv_iconst (v := (nI 3)) hx hb dX0_find_5 (by decide) ?_
    refine x_cge M (tgt := 41) (by decide) (by decide) dX0_find_6 (by decide) (fun c_4 => absurd c_4 (by decide)) (fun c_4 => ?_)
    refine lv_aload_n hx hb dX0_find_9 rfl (lv_at hl 1 rfl) ?_
    refine x_get M hK hw 0 0 rfl rfl ff_X0_9 rfl dX0_find_10 ?_
    refine lv_iload hx hb dX0_find_13 (lv_at hl 0 rfl) ?_
    refine lv_aload_n hx hb dX0_find_15 rfl (lv_at hl 2 rfl) ?_
    refine x_get M hK hw 1 0 rfl rfl ff_X0_21 rfl dX0_find_16 ?_
    refine lv_iload hx hb dX0_find_19 (lv_at hl 0 rfl) ?_
    refine x_iald M hK hw 1 1 rfl rfl (by decide) (by decide) dX0_find_21 ?_
    refine x_topN (n := ρ 6) rfl ?_
    have q_5 : 1 ≤ ρ 6 := (hI.sup (q := 6) (k := 1) (by decide) rfl).1
    have q_6 : ρ 6 ≤ 9 := (hI.sup (q := 6) (k := 1) (by decide) rfl).2
    have L33 : ∀ (x1 : Nat), (x1 = if mq = 1 + 1 then 1 else 0) → ∀ (H : Heap) (locs : List Loc), xW G A s.heap [asgW Y z (setN lf 0 (ρ 5 + x0)) tk bt bw, aucW Y h ρ γ] H locs → ∀ (ls : Array Slot), lv_has ls 5 [(0, .ref z), (1, .ref h), (2, .int (mw w)), (3, .int (mw mq)), (4, .int (nI 1))] → W p l e (xRm 15 413) s m args below meth c H locs 0 0 Q (F0 m 33 ls [.int (nI x1), .int (nI (ρ 6)), .int (nI 1), .ref (z + 1)]) := by
      intro x1 hx1 H locs hw ls hl
      have hy1 : x1 ≤ 1 := by rw [hx1]; split <;> decide
      refine x_iadd M (n := ρ 6 + x1) dX0_find_33 rfl ?_
      refine x_iast M hK hw 0 1 rfl rfl (by decide) (by decide) dX0_find_34 (fun H locs hw => ?_)
      rw [upd_row] at hw
      have hw : xW G A s.heap [asgW Y z (setN (setN lf 0 (ρ 5 + x0)) 1 (ρ 6 + x1)) tk bt bw, aucW Y h ρ γ] H locs := hw
      refine lv_iinc (v := (nI 2)) (lv' := [(4, .int (nI 2)), (0, .ref z), (1, .ref h), (2, .int (mw w)), (3, .int (mw mq))]) hx hb dX0_find_35 hl (k := 4) rfl (by decide) (by decide) rfl (fun ls hl => ?_)
      refine lv_goto (tgt := 3) hx hb dX0_find_38 (by decide) ?_
      refine lv_iload hx hb dX0_find_3 (lv_at hl 0 rfl) ?_
      refine lv_iconst (v := (nI 3)) hx hb dX0_find_5 (by decide) ?_
      refine x_cge M (tgt := 41) (by decide) (by decide) dX0_find_6 (by decide) (fun c_7 => absurd c_7 (by decide)) (fun c_7 => ?_)
      refine lv_aload_n hx hb dX0_find_9 rfl (lv_at hl 1 rfl) ?_
      refine x_get M hK hw 0 0 rfl rfl ff_X0_9 rfl dX0_find_10 ?_
      refine lv_iload hx hb dX0_find_13 (lv_at hl 0 rfl) ?_
      refine lv_aload_n hx hb dX0_find_15 rfl (lv_at hl 2 rfl) ?_
      refine x_get M hK hw 1 0 rfl rfl ff_X0_21 rfl dX0_find_16 ?_
      refine lv_iload hx hb dX0_find_19 (lv_at hl 0 rfl) ?_
      refine x_iald M hK hw 1 1 rfl rfl (by decide) (by decide) dX0_find_21 ?_
      refine x_topN (n := ρ 7) rfl ?_
      have q_8 : 1 ≤ ρ 7 := (hI.sup (q := 7) (k := 2) (by decide) rfl).1
      have q_9 : ρ 7 ≤ 9 := (hI.sup (q := 7) (k := 2) (by decide) rfl).2
      have L33 : ∀ (x2 : Nat), (x2 = if mq = 2 + 1 then 1 else 0) → ∀ (H : Heap) (locs : List Loc), xW G A s.heap [asgW Y z (setN (setN lf 0 (ρ 5 + x0)) 1 (ρ 6 + x1)) tk bt bw, aucW Y h ρ γ] H locs → ∀ (ls : Array Slot), lv_has ls 5 [(0, .ref z), (1, .ref h), (2, .int (mw w)), (3, .int (mw mq)), (4, .int (nI 2))] → W p l e (xRm 15 413) s m args below meth c H locs 0 0 Q (F0 m 33 ls [.int (nI x2), .int (nI (ρ 7)), .int (nI 2), .ref (z + 1)]) := by
        intro x2 hx2 H locs hw ls hl
        have hy2 : x2 ≤ 1 := by rw [hx2]; split <;> decide
        refine x_iadd M (n := ρ 7 + x2) dX0_find_33 rfl ?_
        refine x_iast M hK hw 0 1 rfl rfl (by decide) (by decide) dX0_find_34 (fun H locs hw => ?_)
        rw [upd_row] at hw
        have hw : xW G A s.heap [asgW Y z (setN (setN (setN lf 0 (ρ 5 + x0)) 1 (ρ 6 + x1)) 2 (ρ 7 + x2)) tk bt bw, aucW Y h ρ γ] H locs := hw
        refine lv_iinc (v := (nI 3)) (lv' := [(4, .int (nI 3)), (0, .ref z), (1, .ref h), (2, .int (mw w)), (3, .int (mw mq))]) hx hb dX0_find_35 hl (k := 4) rfl (by decide) (by decide) rfl (fun ls hl => ?_)
        refine lv_goto (tgt := 3) hx hb dX0_find_38 (by decide) ?_
        refine lv_iload hx hb dX0_find_3 (lv_at hl 0 rfl) ?_
        refine lv_iconst (v := (nI 3)) hx hb dX0_find_5 (by decide) ?_
        refine x_cge M (tgt := 41) (by decide) (by decide) dX0_find_6 (by decide) (fun c_10 => ?_) (fun c_10 => absurd c_10 (by decide))
        have hlk : lfOk ρ mq 0 0 (setN (setN (setN lf 0 (ρ 5 + x0)) 1 (ρ 6 + x1)) 2 (ρ 7 + x2)) := fun k hk => k3 (P := fun k => (setN (setN (setN lf 0 (ρ 5 + x0)) 1 (ρ 6 + x1)) 2 (ρ 7 + x2)) k = rmA ρ mq k - lP ρ k 0 0) hk (by show ρ 5 + x0 = _; rw [hx0]; rfl) (by show ρ 6 + x1 = _; rw [hx1]; rfl) (by show ρ 7 + x2 = _; rw [hx2]; rfl)
        refine lv_aload_n hx hb dX0_find_41 rfl (lv_at hl 1 rfl) ?_
        refine lv_iconst (v := (mw (0, 0).1)) hx hb dX0_find_42 (by decide) ?_
        refine x_put M hK hw 0 0 rfl rfl fp_X0_26 rfl rfl (Nat.le_of_ble_eq_true rfl) dX0_find_43 (fun H locs hw => ?_)
        have hw : xW G A s.heap [asgW Y z (setN (setN (setN lf 0 (ρ 5 + x0)) 1 (ρ 6 + x1)) 2 (ρ 7 + x2)) tk bt (mw (0, 0).1), aucW Y h ρ γ] H locs := hw
        refine lv_aload_n hx hb dX0_find_46 rfl (lv_at hl 1 rfl) ?_
        refine lv_aload_n hx hb dX0_find_47 rfl (lv_at hl 2 rfl) ?_
        refine lv_iload_n hx hb dX0_find_48 rfl (lv_at hl 3 rfl) ?_
        refine lv_iconst (v := (nI 0)) hx hb dX0_find_49 (by decide) ?_
        refine lv_iconst (v := (nI 0)) hx hb dX0_find_50 (by decide) ?_
        refine x_cVV (As := [.ref h, .int (mw w), .int (nI 0), .int (nI 0)]) (k_X0_tryFrom_6 l G Y z h (setN (setN (setN lf 0 (ρ 5 + x0)) 1 (ρ 6 + x1)) 2 (ρ 7 + x2)) tk bt ρ γ w mq 0 0 0 (0, 0) (hI) (hw6) (fea_0P) (hlk) (fun q hq => absurd hq (Nat.not_lt_zero _)) (Or.inl rfl) (good_0) (rfl) (by omega) (by omega)) cw_X0_30 [0, 1] 0 0 M hK hZ hw hl.1 rfl (by decide) rfl rfl rfl ⟨by decide, by decide⟩ ⟨Nat.zero_le _, Nat.zero_le _⟩ rfl rfl (Nat.le_of_ble_eq_true rfl) dX0_find_51 (fun sg h_11 H locs hw => ?_)
        obtain ⟨tka12, bta13, hta14, htb15, rfl⟩ := h_11
        have hw : xW G A s.heap [asgW Y z (setN (setN (setN lf 0 (ρ 5 + x0)) 1 (ρ 6 + x1)) 2 (ρ 7 + x2)) tka12 bta13 (mw (FB ρ w mq (ρ 4 - 0) 0 0 (0, 0)).1), aucW Y h ρ γ] H locs := hw
        have hp0 := bestA_pos (ρ := ρ) (m := mq) hw6
        have hFB : FB ρ w mq (ρ 4 - 0) 0 0 (0, 0) = bestA ρ w mq := bestA_FB
        have hch := htb15
        rw [hFB] at hw hch
        have hch : ∀ q, q < ρ 4 → bta13 q = mw (dP (ρ 4) (bestA ρ w mq).2 q) := hch.resolve_left (by omega)
        have hbw : mw (bestA ρ w mq).1 = nI (worA ρ w mq) := mw_p hp0
        rw [hbw] at hw
        have hw : xW G A s.heap [asgW Y z (setN (setN (setN lf 0 (ρ 5 + x0)) 1 (ρ 6 + x1)) 2 (ρ 7 + x2)) tka12 bta13 (nI (worA ρ w mq)), aucW Y h ρ γ] H locs := hw
        refine lv_aload_n hx hb dX0_find_54 rfl (lv_at hl 1 rfl) ?_
        refine x_get M hK hw 0 0 rfl rfl ff_X0_26 rfl dX0_find_55 ?_
        exact hret _ _ _ (nI (worA ρ w mq)) _ _ dX0_find_58 hw rfl rfl ⟨rfl, _, tka12, bta13, by unfold choA; exact hch, rfl⟩
      refine lv_iload hx hb dX0_find_22 (lv_at hl 0 rfl) ?_
      refine lv_iload_n hx hb dX0_find_24 rfl (lv_at hl 4 rfl) ?_
      refine lv_icmp_ne (tgt := 32) hx hb dX0_find_25 (by decide) (fun c_16 => ?_) (fun c_16 => ?_)
      · refine lv_iconst (v := (nI 0)) hx hb dX0_find_32 (by decide) ?_
        exact L33 0 ((if_neg (fun z => c_16 ((nI_mw (by decide) (by omega)).mpr z))).symm) _ _ hw _ (lv_sub hl [1, 2, 3, 4, 0] rfl)
      refine lv_iconst (v := (nI 1)) hx hb dX0_find_28 (by decide) ?_
      refine lv_goto (tgt := 33) hx hb dX0_find_29 (by decide) ?_
      exact L33 1 ((if_pos ((nI_mw (by decide) (by omega)).mp c_16)).symm) _ _ hw _ (lv_sub hl [1, 2, 3, 4, 0] rfl)
    refine lv_iload hx hb dX0_find_22 (lv_at hl 0 rfl) ?_
    refine lv_iload_n hx hb dX0_find_24 rfl (lv_at hl 4 rfl) ?_
    refine lv_icmp_ne (tgt := 32) hx hb dX0_find_25 (by decide) (fun c_17 => ?_) (fun c_17 => ?_)
    · refine lv_iconst (v := (nI 0)) hx hb dX0_find_32 (by decide) ?_
      exact L33 0 ((if_neg (fun z => c_17 ((nI_mw (by decide) (by omega)).mpr z))).symm) _ _ hw _ (lv_sub hl [1, 2, 3, 4, 0] rfl)
    refine lv_iconst (v := (nI 1)) hx hb dX0_find_28 (by decide) ?_
    refine lv_goto (tgt := 33) hx hb dX0_find_29 (by decide) ?_
    exact L33 1 ((if_pos ((nI_mw (by decide) (by omega)).mp c_17)).symm) _ _ hw _ (lv_sub hl [1, 2, 3, 4, 0] rfl)
  refine lv_iload hx hb dX0_find_22 (lv_at hl 0 rfl) ?_
  refine lv_iload_n hx hb dX0_find_24 rfl (lv_at hl 4 rfl) ?_
  refine lv_icmp_ne (tgt := 32) hx hb dX0_find_25 (by decide) (fun c_18 => ?_) (fun c_18 => ?_)
  · refine lv_iconst (v := (nI 0)) hx hb dX0_find_32 (by decide) ?_
    exact L33 0 ((if_neg (fun z => c_18 ((nI_mw (by decide) (by omega)).mpr z))).symm) _ _ hw _ (lv_sub hl [1, 2, 3, 4, 0] rfl)
  refine lv_iconst (v := (nI 1)) hx hb dX0_find_28 (by decide) ?_
  refine lv_goto (tgt := 33) hx hb dX0_find_29 (by decide) ?_
  exact L33 1 ((if_pos ((nI_mw (by decide) (by omega)).mp c_18)).symm) _ _ hw _ (lv_sub hl [1, 2, 3, 4, 0] rfl)
set_option maxHeartbeats 4000000 in
set_option maxRecDepth 20000 in
theorem k_X0_packOf (l : Launch) (G : va_G) (Y : Nat → Nat) (z b : Nat) (lf : Nat → Nat) (tk bt : Nat → Int32) (bw : Int32) (hj : b < 6) : CtI l yX0_packOf cX0_packOf 2 .int 0 0 [.ref z, .int (nI b)] [asgW Y z lf tk bt bw] (fun r sg => r = bt b ∧ sg = [asgW Y z lf tk bt bw]) G Y := by
  refine x_ofI (by decide) (Nat.le_of_ble_eq_true rfl) (fun p e s m args below meth c A ls Q M hK hZ hw hl hret => ?_)
  obtain ⟨hx, hb, -⟩ := id M
  have hl : lv_has ls 2 [(0, .ref z), (1, .int (nI b))] := hl
  refine lv_aload_n hx hb dX0_packOf_0 rfl (lv_at hl 0 rfl) ?_
  refine x_get M hK hw 0 0 rfl rfl ff_X0_18 rfl dX0_packOf_1 ?_
  refine lv_iload_n hx hb dX0_packOf_4 rfl (lv_at hl 1 rfl) ?_
  refine x_iald M hK hw 0 3 rfl rfl (by omega) (by decide) dX0_packOf_5 ?_
  exact hret _ _ _ (bt b) _ _ dX0_packOf_6 hw rfl rfl ⟨rfl, rfl⟩
