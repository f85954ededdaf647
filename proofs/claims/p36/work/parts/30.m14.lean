set_option maxHeartbeats 4000000 in
set_option maxRecDepth 20000 in
theorem k_X0_fits (l : Launch) (G : va_G) (Y : Nat → Nat) (z h : Nat) (lf : Nat → Nat) (tk bt : Nat → Int32) (bw : Int32) (ρ : Nat → Nat) (γ : Nat → Nat → Nat) (b i : Nat) (hI : Inv ρ) (hj : b < ρ 4) (hi : i ≤ ρ (22 + 21 * b)) (hlf : ∀ k, k < 3 → lf k ≤ 10) : CtI l yX0_fits cX0_fits 5 .boolean 2 44 [.ref z, .ref h, .int (nI b), .int (nI i)] [asgW Y z lf tk bt bw, aucW Y h ρ γ] (fun r sg => r = b2i (decide (fitA lf ρ b i)) ∧ sg = [asgW Y z lf tk bt bw, aucW Y h ρ γ]) G Y := by
  refine x_ofI (by decide) (Nat.le_of_ble_eq_true rfl) (fun p e s m args below meth c A ls Q M hK hZ hw hl hret => ?_)
  obtain ⟨hx, hb, -⟩ := id M
  have hl : lv_has ls 5 [(0, .ref z), (1, .ref h), (2, .int (nI b)), (3, .int (nI i))] := hl
  have := hI.n6
  have := hI.over
  have := hI.keep
  have := hI.stepp
  refine lv_iconst (v := (nI 0)) hx hb dX0_fits_0 (by decide) ?_
  refine lv_istore (lv' := [(4, .int (nI 0)), (0, .ref z), (1, .ref h), (2, .int (nI b)), (3, .int (nI i))]) hx hb dX0_fits_1 hl (by decide) rfl (fun ls hl => ?_)
  refine lv_iload hx hb dX0_fits_3 (lv_at hl 0 rfl) ?_
  refine lv_iconst (v := (nI 3)) hx hb dX0_fits_5 (by decide) ?_
  refine x_cge M (tgt := 35) (by decide) (by decide) dX0_fits_6 (by decide) (fun c_1 => absurd c_1 (by decide)) (fun c_1 => ?_)
  refine lv_aload_n hx hb dX0_fits_9 rfl (lv_at hl 2 rfl) ?_
  refine lv_iload_n hx hb dX0_fits_10 rfl (lv_at hl 3 rfl) ?_
  refine lv_iload_n hx hb dX0_fits_11 rfl (lv_at hl 4 rfl) ?_
  refine lv_iload hx hb dX0_fits_12 (lv_at hl 0 rfl) ?_
  refine x_cVI (As := [.int (nI b), .int (nI i), .int (nI 0)]) (k_X1_packLots l G Y h b i 0 ρ γ (hI) (by omega) (by omega) (by omega)) cw_X0_59 [1] 1 0 M hK hZ hw hl.1 rfl (by decide) rfl rfl rfl ⟨by decide, by decide⟩ ⟨Nat.zero_le _, Nat.zero_le _⟩ rfl rfl (Nat.le_of_ble_eq_true rfl) dX0_fits_14 (fun r sg h_2 H locs hw => ?_)
  obtain ⟨rfl, rfl⟩ := h_2
  have hw : xW G A s.heap [asgW Y z lf tk bt bw, aucW Y h ρ γ] H locs := hw
  have q_3 : lotOf ρ b i 0 ≤ 9 := lotOf_le hI (by omega) (by omega) (by omega)
  refine lv_aload_n hx hb dX0_fits_17 rfl (lv_at hl 1 rfl) ?_
  refine x_get M hK hw 0 0 rfl rfl ff_X0_9 rfl dX0_fits_18 ?_
  refine lv_iload hx hb dX0_fits_21 (lv_at hl 0 rfl) ?_
  refine x_iald M hK hw 0 1 rfl rfl (by decide) (by decide) dX0_fits_23 ?_
  refine x_topN (n := lf 0) rfl ?_
  have q_4 : lf 0 ≤ 10 := (hlf 0 (by decide))
  refine x_cle M (tgt := 29) (by omega) (by omega) dX0_fits_24 (by decide) (fun c_5 => ?_) (fun c_5 => ?_)
  · refine lv_iinc (v := (nI 1)) (lv' := [(4, .int (nI 1)), (0, .ref z), (1, .ref h), (2, .int (nI b)), (3, .int (nI i))]) hx hb dX0_fits_29 hl (k := 0) rfl (by decide) (by decide) rfl (fun ls hl => ?_)
    refine lv_goto (tgt := 3) hx hb dX0_fits_32 (by decide) ?_
    refine lv_iload hx hb dX0_fits_3 (lv_at hl 0 rfl) ?_
    refine lv_iconst (v := (nI 3)) hx hb dX0_fits_5 (by decide) ?_
    refine x_cge M (tgt := 35) (by decide) (by decide) dX0_fits_6 (by decide) (fun c_6 => absurd c_6 (by decide)) (fun c_6 => ?_)
    refine lv_aload_n hx hb dX0_fits_9 rfl (lv_at hl 2 rfl) ?_
    refine lv_iload_n hx hb dX0_fits_10 rfl (lv_at hl 3 rfl) ?_
    refine lv_iload_n hx hb dX0_fits_11 rfl (lv_at hl 4 rfl) ?_
    refine lv_iload hx hb dX0_fits_12 (lv_at hl 0 rfl) ?_
    refine x_cVI (As := [.int (nI b), .int (nI i), .int (nI 1)]) (k_X1_packLots l G Y h b i 1 ρ γ (hI) (by omega) (by omega) (by omega)) cw_X0_59 [1] 1 0 M hK hZ hw hl.1 rfl (by decide) rfl rfl rfl ⟨by decide, by decide⟩ ⟨Nat.zero_le _, Nat.zero_le _⟩ rfl rfl (Nat.le_of_ble_eq_true rfl) dX0_fits_14 (fun r sg h_7 H locs hw => ?_)
    obtain ⟨rfl, rfl⟩ := h_7
    have hw : xW G A s.heap [asgW Y z lf tk bt bw, aucW Y h ρ γ] H locs := hw
    have q_8 : lotOf ρ b i 1 ≤ 9 := lotOf_le hI (by omega) (by omega) (by omega)
    refine lv_aload_n hx hb dX0_fits_17 rfl (lv_at hl 1 rfl) ?_
    refine x_get M hK hw 0 0 rfl rfl ff_X0_9 rfl dX0_fits_18 ?_
    refine lv_iload hx hb dX0_fits_21 (lv_at hl 0 rfl) ?_
    refine x_iald M hK hw 0 1 rfl rfl (by decide) (by decide) dX0_fits_23 ?_
    refine x_topN (n := lf 1) rfl ?_
    have q_9 : lf 1 ≤ 10 := (hlf 1 (by decide))
    refine x_cle M (tgt := 29) (by omega) (by omega) dX0_fits_24 (by decide) (fun c_10 => ?_) (fun c_10 => ?_)
    · refine lv_iinc (v := (nI 2)) (lv' := [(4, .int (nI 2)), (0, .ref z), (1, .ref h), (2, .int (nI b)), (3, .int (nI i))]) hx hb dX0_fits_29 hl (k := 0) rfl (by decide) (by decide) rfl (fun ls hl => ?_)
      refine lv_goto (tgt := 3) hx hb dX0_fits_32 (by decide) ?_
      refine lv_iload hx hb dX0_fits_3 (lv_at hl 0 rfl) ?_
      refine lv_iconst (v := (nI 3)) hx hb dX0_fits_5 (by decide) ?_
      refine x_cge M (tgt := 35) (by decide) (by decide) dX0_fits_6 (by decide) (fun c_11 => absurd c_11 (by decide)) (fun c_11 => ?_)
      refine lv_aload_n hx hb dX0_fits_9 rfl (lv_at hl 2 rfl) ?_
      refine lv_iload_n hx hb dX0_fits_10 rfl (lv_at hl 3 rfl) ?_
      refine lv_iload_n hx hb dX0_fits_11 rfl (lv_at hl 4 rfl) ?_
      refine lv_iload hx hb dX0_fits_12 (lv_at hl 0 rfl) ?_
      refine x_cVI (As := [.int (nI b), .int (nI i), .int (nI 2)]) (k_X1_packLots l G Y h b i 2 ρ γ (hI) (by omega) (by omega) (by omega)) cw_X0_59 [1] 1 0 M hK hZ hw hl.1 rfl (by decide) rfl rfl rfl ⟨by decide, by decide⟩ ⟨Nat.zero_le _, Nat.zero_le _⟩ rfl rfl (Nat.le_of_ble_eq_true rfl) dX0_fits_14 (fun r sg h_12 H locs hw => ?_)
      obtain ⟨rfl, rfl⟩ := h_12
      have hw : xW G A s.heap [asgW Y z lf tk bt bw, aucW Y h ρ γ] H locs := hw
      have q_13 : lotOf ρ b i 2 ≤ 9 := lotOf_le hI (by omega) (by omega) (by omega)
      refine lv_aload_n hx hb dX0_fits_17 rfl (lv_at hl 1 rfl) ?_
      refine x_get M hK hw 0 0 rfl rfl ff_X0_9 rfl dX0_fits_18 ?_
      refine lv_iload hx hb dX0_fits_21 (lv_at hl 0 rfl) ?_
      refine x_iald M hK hw 0 1 rfl rfl (by decide) (by decide) dX0_fits_23 ?_
      refine x_topN (n := lf 2) rfl ?_
      have q_14 : lf 2 ≤ 10 := (hlf 2 (by decide))
      refine x_cle M (tgt := 29) (by omega) (by omega) dX0_fits_24 (by decide) (fun c_15 => ?_) (fun c_15 => ?_)
      · refine lv_iinc (v := (nI 3)) (lv' := [(4, .int (nI 3)), (0, .ref z), (1, .ref h), (2, .int (nI b)), (3, .int (nI i))]) hx hb dX0_fits_29 hl (k := 0) rfl (by decide) (by decide) rfl (fun ls hl => ?_)
        refine lv_goto (tgt := 3) hx hb dX0_fits_32 (by decide) ?_
        refine lv_iload hx hb dX0_fits_3 (lv_at hl 0 rfl) ?_
        refine lv_iconst (v := (nI 3)) hx hb dX0_fits_5 (by decide) ?_
        refine x_cge M (tgt := 35) (by decide) (by decide) dX0_fits_6 (by decide) (fun c_16 => ?_) (fun c_16 => absurd c_16 (by decide))
        refine lv_iconst (v := (nI 1)) hx hb dX0_fits_35 (by decide) ?_
        exact hret _ _ _ (nI 1) _ _ dX0_fits_36 hw rfl rfl ⟨b2i_t (by clear hret hw hl M hK hZ hx hb; exact decide_eq_true ⟨by omega, by omega, by omega⟩), rfl⟩
      refine lv_iconst (v := (nI 0)) hx hb dX0_fits_27 (by decide) ?_
      exact hret _ _ _ (nI 0) _ _ dX0_fits_28 hw rfl rfl ⟨b2i_f (by clear hret hw hl M hK hZ hx hb; exact decide_eq_false (fun z => by have := z.1; have := z.2.1; have := z.2.2; omega)), rfl⟩
    refine lv_iconst (v := (nI 0)) hx hb dX0_fits_27 (by decide) ?_
    exact hret _ _ _ (nI 0) _ _ dX0_fits_28 hw rfl rfl ⟨b2i_f (by clear hret hw hl M hK hZ hx hb; exact decide_eq_false (fun z => by have := z.1; have := z.2.1; have := z.2.2; omega)), rfl⟩
  refine lv_iconst (v := (nI 0)) hx hb dX0_fits_27 (by decide) ?_
  exact hret _ _ _ (nI 0) _ _ dX0_fits_28 hw rfl rfl ⟨b2i_f (by clear hret hw hl M hK hZ hx hb; exact decide_eq_false (fun z => by have := z.1; have := z.2.1; have := z.2.2; omega)), rfl⟩
set_option maxHeartbeats 4000000 in
set_option maxRecDepth 20000 in
theorem k_X0_take_t (l : Launch) (G : va_G) (Y : Nat → Nat) (z h : Nat) (lf : Nat → Nat) (tk bt : Nat → Int32) (bw : Int32) (ρ : Nat → Nat) (γ : Nat → Nat → Nat) (b i : Nat) (hI : Inv ρ) (hj : b < ρ 4) (hi : i ≤ ρ (22 + 21 * b)) (hlf : ∀ k, k < 3 → lf k ≤ 10) (hf : fitA lf ρ b i) : CtV l yX0_take cX0_take 6 2 44 [.ref z, .ref h, .int (nI b), .int (nI i), .int (nI 1)] [asgW Y z lf tk bt bw, aucW Y h ρ γ] (fun sg => sg = [asgW Y z (tkM lf ρ b i) tk bt bw, aucW Y h ρ γ]) G Y := by
  refine x_ofV (by decide) (Nat.le_of_ble_eq_true rfl) (fun p e s m args below meth c A ls Q M hK hZ hw hl hret => ?_)
  obtain ⟨hx, hb, -⟩ := id M
  have hl : lv_has ls 6 [(0, .ref z), (1, .ref h), (2, .int (nI b)), (3, .int (nI i)), (4, .int (nI 1))] := hl
  obtain ⟨hf0, hf1, hf2⟩ := hf
  have := hI.n6
  have := hI.over
  have := hI.keep
  have := hI.stepp
  refine lv_iconst (v := (nI 0)) hx hb dX0_take_0 (by decide) ?_
  refine lv_istore (lv' := [(5, .int (nI 0)), (0, .ref z), (1, .ref h), (2, .int (nI b)), (3, .int (nI i)), (4, .int (nI 1))]) hx hb dX0_take_1 hl (by decide) rfl (fun ls hl => ?_)
  refine lv_iload hx hb dX0_take_3 (lv_at hl 0 rfl) ?_
  refine lv_iconst (v := (nI 3)) hx hb dX0_take_5 (by decide) ?_
  refine x_cge M (tgt := 36) (by decide) (by decide) dX0_take_6 (by decide) (fun c_1 => absurd c_1 (by decide)) (fun c_1 => ?_)
  refine lv_aload_n hx hb dX0_take_9 rfl (lv_at hl 1 rfl) ?_
  refine x_get M hK hw 0 0 rfl rfl ff_X0_9 rfl dX0_take_10 ?_
  refine lv_iload hx hb dX0_take_13 (lv_at hl 0 rfl) ?_
  refine lv_dup2_11 hx hb dX0_take_15 rfl rfl ?_
  refine x_iald M hK hw 0 1 rfl rfl (by decide) (by decide) dX0_take_16 ?_
  refine x_topN (n := lf 0) rfl ?_
  have q_2 : lf 0 ≤ 10 := (hlf 0 (by decide))
  refine lv_iload hx hb dX0_take_17 (lv_at hl 5 rfl) ?_
  refine lv_aload_n hx hb dX0_take_19 rfl (lv_at hl 2 rfl) ?_
  refine lv_iload_n hx hb dX0_take_20 rfl (lv_at hl 3 rfl) ?_
  refine lv_iload_n hx hb dX0_take_21 rfl (lv_at hl 4 rfl) ?_
  refine lv_iload hx hb dX0_take_22 (lv_at hl 0 rfl) ?_
  refine x_cVI (As := [.int (nI b), .int (nI i), .int (nI 0)]) (k_X1_packLots l G Y h b i 0 ρ γ (hI) (by omega) (by omega) (by omega)) cw_X0_59 [1] 1 0 M hK hZ hw hl.1 rfl (by decide) rfl rfl rfl ⟨by decide, by decide⟩ ⟨Nat.zero_le _, Nat.zero_le _⟩ rfl rfl (Nat.le_of_ble_eq_true rfl) dX0_take_24 (fun r sg h_3 H locs hw => ?_)
  obtain ⟨rfl, rfl⟩ := h_3
  have hw : xW G A s.heap [asgW Y z lf tk bt bw, aucW Y h ρ γ] H locs := hw
  have q_4 : lotOf ρ b i 0 ≤ 9 := lotOf_le hI (by omega) (by omega) (by omega)
  refine x_imul M (n := lotOf ρ b i 0) dX0_take_27 (by omega) ?_
  refine x_isub M (n := (lf 0 - (lotOf ρ b i 0))) dX0_take_28 (by omega) ?_
  refine x_iast M hK hw 0 1 rfl rfl (by decide) (by decide) dX0_take_29 (fun H locs hw => ?_)
  rw [upd_row] at hw
  have hw : xW G A s.heap [asgW Y z (setN lf 0 (lf 0 - (lotOf ρ b i 0))) tk bt bw, aucW Y h ρ γ] H locs := hw
  refine lv_iinc (v := (nI 1)) (lv' := [(5, .int (nI 1)), (0, .ref z), (1, .ref h), (2, .int (nI b)), (3, .int (nI i)), (4, .int (nI 1))]) hx hb dX0_take_30 hl (k := 0) rfl (by decide) (by decide) rfl (fun ls hl => ?_)
  refine lv_goto (tgt := 3) hx hb dX0_take_33 (by decide) ?_
  refine lv_iload hx hb dX0_take_3 (lv_at hl 0 rfl) ?_
  refine lv_iconst (v := (nI 3)) hx hb dX0_take_5 (by decide) ?_
  refine x_cge M (tgt := 36) (by decide) (by decide) dX0_take_6 (by decide) (fun c_5 => absurd c_5 (by decide)) (fun c_5 => ?_)
  refine lv_aload_n hx hb dX0_take_9 rfl (lv_at hl 1 rfl) ?_
  refine x_get M hK hw 0 0 rfl rfl ff_X0_9 rfl dX0_take_10 ?_
  refine lv_iload hx hb dX0_take_13 (lv_at hl 0 rfl) ?_
  refine lv_dup2_11 hx hb dX0_take_15 rfl rfl ?_
  refine x_iald M hK hw 0 1 rfl rfl (by decide) (by decide) dX0_take_16 ?_
  refine x_topN (n := lf 1) (congrArg nI ((setN_n (by omega)).trans rfl)) ?_
  have q_6 : lf 1 ≤ 10 := (hlf 1 (by decide))
  refine lv_iload hx hb dX0_take_17 (lv_at hl 5 rfl) ?_
  refine lv_aload_n hx hb dX0_take_19 rfl (lv_at hl 2 rfl) ?_
  refine lv_iload_n hx hb dX0_take_20 rfl (lv_at hl 3 rfl) ?_
  refine lv_iload_n hx hb dX0_take_21 rfl (lv_at hl 4 rfl) ?_
  refine lv_iload hx hb dX0_take_22 (lv_at hl 0 rfl) ?_
  refine x_cVI (As := [.int (nI b), .int (nI i), .int (nI 1)]) (k_X1_packLots l G Y h b i 1 ρ γ (hI) (by omega) (by omega) (by omega)) cw_X0_59 [1] 1 0 M hK hZ hw hl.1 rfl (by decide) rfl rfl rfl ⟨by decide, by decide⟩ ⟨Nat.zero_le _, Nat.zero_le _⟩ rfl rfl (Nat.le_of_ble_eq_true rfl) dX0_take_24 (fun r sg h_7 H locs hw => ?_)
  obtain ⟨rfl, rfl⟩ := h_7
  have hw : xW G A s.heap [asgW Y z (setN lf 0 (lf 0 - (lotOf ρ b i 0))) tk bt bw, aucW Y h ρ γ] H locs := hw
  have q_8 : lotOf ρ b i 1 ≤ 9 := lotOf_le hI (by omega) (by omega) (by omega)
  refine x_imul M (n := lotOf ρ b i 1) dX0_take_27 (by omega) ?_
  refine x_isub M (n := (lf 1 - (lotOf ρ b i 1))) dX0_take_28 (by omega) ?_
  refine x_iast M hK hw 0 1 rfl rfl (by decide) (by decide) dX0_take_29 (fun H locs hw => ?_)
  rw [upd_row] at hw
  have hw : xW G A s.heap [asgW Y z (setN (setN lf 0 (lf 0 - (lotOf ρ b i 0))) 1 (lf 1 - (lotOf ρ b i 1))) tk bt bw, aucW Y h ρ γ] H locs := hw
  refine lv_iinc (v := (nI 2)) (lv' := [(5, .int (nI 2)), (0, .ref z), (1, .ref h), (2, .int (nI b)), (3, .int (nI i)), (4, .int (nI 1))]) hx hb dX0_take_30 hl (k := 0) rfl (by decide) (by decide) rfl (fun ls hl => ?_)
  refine lv_goto (tgt := 3) hx hb dX0_take_33 (by decide) ?_
  refine lv_iload hx hb dX0_take_3 (lv_at hl 0 rfl) ?_
  refine lv_iconst (v := (nI 3)) hx hb dX0_take_5 (by decide) ?_
  refine x_cge M (tgt := 36) (by decide) (by decide) dX0_take_6 (by decide) (fun c_9 => absurd c_9 (by decide)) (fun c_9 => ?_)
  refine lv_aload_n hx hb dX0_take_9 rfl (lv_at hl 1 rfl) ?_
  refine x_get M hK hw 0 0 rfl rfl ff_X0_9 rfl dX0_take_10 ?_
  refine lv_iload hx hb dX0_take_13 (lv_at hl 0 rfl) ?_
  refine lv_dup2_11 hx hb dX0_take_15 rfl rfl ?_
  refine x_iald M hK hw 0 1 rfl rfl (by decide) (by decide) dX0_take_16 ?_
  refine x_topN (n := lf 2) (congrArg nI ((setN_n (by omega)).trans ((setN_n (by omega)).trans rfl))) ?_
  have q_10 : lf 2 ≤ 10 := (hlf 2 (by decide))
  refine lv_iload hx hb dX0_take_17 (lv_at hl 5 rfl) ?_
  refine lv_aload_n hx hb dX0_take_19 rfl (lv_at hl 2 rfl) ?_
  refine lv_iload_n hx hb dX0_take_20 rfl (lv_at hl 3 rfl) ?_
  refine lv_iload_n hx hb dX0_take_21 rfl (lv_at hl 4 rfl) ?_
  refine lv_iload hx hb dX0_take_22 (lv_at hl 0 rfl) ?_
  refine x_cVI (As := [.int (nI b), .int (nI i), .int (nI 2)]) (k_X1_packLots l G Y h b i 2 ρ γ (hI) (by omega) (by omega) (by omega)) cw_X0_59 [1] 1 0 M hK hZ hw hl.1 rfl (by decide) rfl rfl rfl ⟨by decide, by decide⟩ ⟨Nat.zero_le _, Nat.zero_le _⟩ rfl rfl (Nat.le_of_ble_eq_true rfl) dX0_take_24 (fun r sg h_11 H locs hw => ?_)
  obtain ⟨rfl, rfl⟩ := h_11
  have hw : xW G A s.heap [asgW Y z (setN (setN lf 0 (lf 0 - (lotOf ρ b i 0))) 1 (lf 1 - (lotOf ρ b i 1))) tk bt bw, aucW Y h ρ γ] H locs := hw
  have q_12 : lotOf ρ b i 2 ≤ 9 := lotOf_le hI (by omega) (by omega) (by omega)
  refine x_imul M (n := lotOf ρ b i 2) dX0_take_27 (by omega) ?_
  refine x_isub M (n := (lf 2 - (lotOf ρ b i 2))) dX0_take_28 (by omega) ?_
  refine x_iast M hK hw 0 1 rfl rfl (by decide) (by decide) dX0_take_29 (fun H locs hw => ?_)
  rw [upd_row] at hw
  have hw : xW G A s.heap [asgW Y z (setN (setN (setN lf 0 (lf 0 - (lotOf ρ b i 0))) 1 (lf 1 - (lotOf ρ b i 1))) 2 (lf 2 - (lotOf ρ b i 2))) tk bt bw, aucW Y h ρ γ] H locs := hw
  refine lv_iinc (v := (nI 3)) (lv' := [(5, .int (nI 3)), (0, .ref z), (1, .ref h), (2, .int (nI b)), (3, .int (nI i)), (4, .int (nI 1))]) hx hb dX0_take_30 hl (k := 0) rfl (by decide) (by decide) rfl (fun ls hl => ?_)
  refine lv_goto (tgt := 3) hx hb dX0_take_33 (by decide) ?_
  refine lv_iload hx hb dX0_take_3 (lv_at hl 0 rfl) ?_
  refine lv_iconst (v := (nI 3)) hx hb dX0_take_5 (by decide) ?_
  refine x_cge M (tgt := 36) (by decide) (by decide) dX0_take_6 (by decide) (fun c_13 => ?_) (fun c_13 => absurd c_13 (by decide))
  have hw : xW G A s.heap [asgW Y z (tkM lf ρ b i) tk bt bw, aucW Y h ρ γ] H locs := hw
  exact hret _ _ _ _ _ dX0_take_36 hw rfl rfl
set_option maxHeartbeats 4000000 in
set_option maxRecDepth 20000 in
theorem k_X0_take_g (l : Launch) (G : va_G) (Y : Nat → Nat) (z h : Nat) (lf : Nat → Nat) (tk bt : Nat → Int32) (bw : Int32) (ρ : Nat → Nat) (γ : Nat → Nat → Nat) (b i : Nat) (hI : Inv ρ) (hj : b < ρ 4) (hi : i ≤ ρ (22 + 21 * b)) (hlf : ∀ k, k < 3 → lf k ≤ 10) : CtV l yX0_take cX0_take 6 2 44 [.ref z, .ref h, .int (nI b), .int (nI i), .int (-1)] [asgW Y z lf tk bt bw, aucW Y h ρ γ] (fun sg => sg = [asgW Y z (tkP lf ρ b i) tk bt bw, aucW Y h ρ γ]) G Y := by
  refine x_ofV (by decide) (Nat.le_of_ble_eq_true rfl) (fun p e s m args below meth c A ls Q M hK hZ hw hl hret => ?_)
  obtain ⟨hx, hb, -⟩ := id M
  have hl : lv_has ls 6 [(0, .ref z), (1, .ref h), (2, .int (nI b)), (3, .int (nI i)), (4, .int (-1))] := hl
  have := hI.n6
  have := hI.over
  have := hI.keep
  have := hI.stepp
  refine lv_iconst (v := (nI 0)) hx hb dX0_take_0 (by decide) ?_
  refine lv_istore (lv' := [(5, .int (nI 0)), (0, .ref z), (1, .ref h), (2, .int (nI b)), (3, .int (nI i)), (4, .int (-1))]) hx hb dX0_take_1 hl (by decide) rfl (fun ls hl => ?_)
  refine lv_iload hx hb dX0_take_3 (lv_at hl 0 rfl) ?_
  refine lv_iconst (v := (nI 3)) hx hb dX0_take_5 (by decide) ?_
  refine x_cge M (tgt := 36) (by decide) (by decide) dX0_take_6 (by decide) (fun c_1 => absurd c_1 (by decide)) (fun c_1 => ?_)
  refine lv_aload_n hx hb dX0_take_9 rfl (lv_at hl 1 rfl) ?_
  refine x_get M hK hw 0 0 rfl rfl ff_X0_9 rfl dX0_take_10 ?_
  refine lv_iload hx hb dX0_take_13 (lv_at hl 0 rfl) ?_
  refine lv_dup2_11 hx hb dX0_take_15 rfl rfl ?_
  refine x_iald M hK hw 0 1 rfl rfl (by decide) (by decide) dX0_take_16 ?_
  refine x_topN (n := lf 0) rfl ?_
  have q_2 : lf 0 ≤ 10 := (hlf 0 (by decide))
  refine lv_iload hx hb dX0_take_17 (lv_at hl 5 rfl) ?_
  refine lv_aload_n hx hb dX0_take_19 rfl (lv_at hl 2 rfl) ?_
  refine lv_iload_n hx hb dX0_take_20 rfl (lv_at hl 3 rfl) ?_
  refine lv_iload_n hx hb dX0_take_21 rfl (lv_at hl 4 rfl) ?_
  refine lv_iload hx hb dX0_take_22 (lv_at hl 0 rfl) ?_
  refine x_cVI (As := [.int (nI b), .int (nI i), .int (nI 0)]) (k_X1_packLots l G Y h b i 0 ρ γ (hI) (by omega) (by omega) (by omega)) cw_X0_59 [1] 1 0 M hK hZ hw hl.1 rfl (by decide) rfl rfl rfl ⟨by decide, by decide⟩ ⟨Nat.zero_le _, Nat.zero_le _⟩ rfl rfl (Nat.le_of_ble_eq_true rfl) dX0_take_24 (fun r sg h_3 H locs hw => ?_)
  obtain ⟨rfl, rfl⟩ := h_3
  have hw : xW G A s.heap [asgW Y z lf tk bt bw, aucW Y h ρ γ] H locs := hw
  have q_4 : lotOf ρ b i 0 ≤ 9 := lotOf_le hI (by omega) (by omega) (by omega)
  refine lv_imul hx hb dX0_take_27 ?_
  refine lv_isub hx hb dX0_take_28 ?_
  refine x_topN (n := lf 0 + lotOf ρ b i 0) sub_neg1 ?_
  refine x_iast M hK hw 0 1 rfl rfl (by decide) (by decide) dX0_take_29 (fun H locs hw => ?_)
  rw [upd_row] at hw
  have hw : xW G A s.heap [asgW Y z (setN lf 0 (lf 0 + lotOf ρ b i 0)) tk bt bw, aucW Y h ρ γ] H locs := hw
  refine lv_iinc (v := (nI 1)) (lv' := [(5, .int (nI 1)), (0, .ref z), (1, .ref h), (2, .int (nI b)), (3, .int (nI i)), (4, .int (-1))]) hx hb dX0_take_30 hl (k := 0) rfl (by decide) (by decide) rfl (fun ls hl => ?_)
  refine lv_goto (tgt := 3) hx hb dX0_take_33 (by decide) ?_
  refine lv_iload hx hb dX0_take_3 (lv_at hl 0 rfl) ?_
  refine lv_iconst (v := (nI 3)) hx hb dX0_take_5 (by decide) ?_
  refine x_cge M (tgt := 36) (by decide) (by decide) dX0_take_6 (by decide) (fun c_5 => absurd c_5 (by decide)) (fun c_5 => ?_)
  refine lv_aload_n hx hb dX0_take_9 rfl (lv_at hl 1 rfl) ?_
  refine x_get M hK hw 0 0 rfl rfl ff_X0_9 rfl dX0_take_10 ?_
  refine lv_iload hx hb dX0_take_13 (lv_at hl 0 rfl) ?_
  refine lv_dup2_11 hx hb dX0_take_15 rfl rfl ?_
  refine x_iald M hK hw 0 1 rfl rfl (by decide) (by decide) dX0_take_16 ?_
  refine x_topN (n := lf 1) (congrArg nI ((setN_n (by omega)).trans rfl)) ?_
  have q_6 : lf 1 ≤ 10 := (hlf 1 (by decide))
  refine lv_iload hx hb dX0_take_17 (lv_at hl 5 rfl) ?_
  refine lv_aload_n hx hb dX0_take_19 rfl (lv_at hl 2 rfl) ?_
  refine lv_iload_n hx hb dX0_take_20 rfl (lv_at hl 3 rfl) ?_
  refine lv_iload_n hx hb dX0_take_21 rfl (lv_at hl 4 rfl) ?_
  refine lv_iload hx hb dX0_take_22 (lv_at hl 0 rfl) ?_
  refine x_cVI (As := [.int (nI b), .int (nI i), .int (nI 1)]) (k_X1_packLots l G Y h b i 1 ρ γ (hI) (by omega) (by omega) (by omega)) cw_X0_59 [1] 1 0 M hK hZ hw hl.1 rfl (by decide) rfl rfl rfl ⟨by decide, by decide⟩ ⟨Nat.zero_le _, Nat.zero_le _⟩ rfl rfl (Nat.le_of_ble_eq_true rfl) dX0_take_24 (fun r sg h_7 H locs hw => ?_)
  obtain ⟨rfl, rfl⟩ := h_7
  have hw : xW G A s.heap [asgW Y z (setN lf 0 (lf 0 + lotOf ρ b i 0)) tk bt bw, aucW Y h ρ γ] H locs := hw
  have q_8 : lotOf ρ b i 1 ≤ 9 := lotOf_le hI (by omega) (by omega) (by omega)
  refine lv_imul hx hb dX0_take_27 ?_
  refine lv_isub hx hb dX0_take_28 ?_
  refine x_topN (n := lf 1 + lotOf ρ b i 1) sub_neg1 ?_
  refine x_iast M hK hw 0 1 rfl rfl (by decide) (by decide) dX0_take_29 (fun H locs hw => ?_)
  rw [upd_row] at hw
  have hw : xW G A s.heap [asgW Y z (setN (setN lf 0 (lf 0 + lotOf ρ b i 0)) 1 (lf 1 + lotOf ρ b i 1)) tk bt bw, aucW Y h ρ γ] H locs := hw
  refine lv_iinc (v := (nI 2)) (lv' := [(5, .int (nI 2)), (0, .ref z), (1, .ref h), (2, .int (nI b)), (3, .int (nI i)), (4, .int (-1))]) hx hb dX0_take_30 hl (k := 0) rfl (by decide) (by decide) rfl (fun ls hl => ?_)
  refine lv_goto (tgt := 3) hx hb dX0_take_33 (by decide) ?_
  refine lv_iload hx hb dX0_take_3 (lv_at hl 0 rfl) ?_
  refine lv_iconst (v := (nI 3)) hx hb dX0_take_5 (by decide) ?_
  refine x_cge M (tgt := 36) (by decide) (by decide) dX0_take_6 (by decide) (fun c_9 => absurd c_9 (by decide)) (fun c_9 => ?_)
  refine lv_aload_n hx hb dX0_take_9 rfl (lv_at hl 1 rfl) ?_
  refine x_get M hK hw 0 0 rfl rfl ff_X0_9 rfl dX0_take_10 ?_
  refine lv_iload hx hb dX0_take_13 (lv_at hl 0 rfl) ?_
  refine lv_dup2_11 hx hb dX0_take_15 rfl rfl ?_
  refine x_iald M hK hw 0 1 rfl rfl (by decide) (by decide) dX0_take_16 ?_
  refine x_topN (n := lf 2) (congrArg nI ((setN_n (by omega)).trans ((setN_n (by omega)).trans rfl))) ?_
  have q_10 : lf 2 ≤ 10 := (hlf 2 (by decide))
  refine lv_iload hx hb dX0_take_17 (lv_at hl 5 rfl) ?_
  refine lv_aload_n hx hb dX0_take_19 rfl (lv_at hl 2 rfl) ?_
  refine lv_iload_n hx hb dX0_take_20 rfl (lv_at hl 3 rfl) ?_
  refine lv_iload_n hx hb dX0_take_21 rfl (lv_at hl 4 rfl) ?_
  refine lv_iload hx hb dX0_take_22 (lv_at hl 0 rfl) ?_
  refine x_cVI (As := [.int (nI b), .int (nI i), .int (nI 2)]) (k_X1_packLots l G Y h b i 2 ρ γ (hI) (by omega) (by omega) (by omega)) cw_X0_59 [1] 1 0 M hK hZ hw hl.1 rfl (by decide) rfl rfl rfl ⟨by decide, by decide⟩ ⟨Nat.zero_le _, Nat.zero_le _⟩ rfl rfl (Nat.le_of_ble_eq_true rfl) dX0_take_24 (fun r sg h_11 H locs hw => ?_)
  obtain ⟨rfl, rfl⟩ := h_11
  have hw : xW G A s.heap [asgW Y z (setN (setN lf 0 (lf 0 + lotOf ρ b i 0)) 1 (lf 1 + lotOf ρ b i 1)) tk bt bw, aucW Y h ρ γ] H locs := hw
  have q_12 : lotOf ρ b i 2 ≤ 9 := lotOf_le hI (by omega) (by omega) (by omega)
  refine lv_imul hx hb dX0_take_27 ?_
  refine lv_isub hx hb dX0_take_28 ?_
  refine x_topN (n := lf 2 + lotOf ρ b i 2) sub_neg1 ?_
  refine x_iast M hK hw 0 1 rfl rfl (by decide) (by decide) dX0_take_29 (fun H locs hw => ?_)
  rw [upd_row] at hw
  have hw : xW G A s.heap [asgW Y z (setN (setN (setN lf 0 (lf 0 + lotOf ρ b i 0)) 1 (lf 1 + lotOf ρ b i 1)) 2 (lf 2 + lotOf ρ b i 2)) tk bt bw, aucW Y h ρ γ] H locs := hw
  refine lv_iinc (v := (nI 3)) (lv' := [(5, .int (nI 3)), (0, .ref z), (1, .ref h), (2, .int (nI b)), (3, .int (nI i)), (4, .int (-1))]) hx hb dX0_take_30 hl (k := 0) rfl (by decide) (by decide) rfl (fun ls hl => ?_)
  refine lv_goto (tgt := 3) hx hb dX0_take_33 (by decide) ?_
  refine lv_iload hx hb dX0_take_3 (lv_at hl 0 rfl) ?_
  refine lv_iconst (v := (nI 3)) hx hb dX0_take_5 (by decide) ?_
  refine x_cge M (tgt := 36) (by decide) (by decide) dX0_take_6 (by decide) (fun c_13 => ?_) (fun c_13 => absurd c_13 (by decide))
  have hw : xW G A s.heap [asgW Y z (tkP lf ρ b i) tk bt bw, aucW Y h ρ γ] H locs := hw
  exact hret _ _ _ _ _ dX0_take_36 hw rfl rfl
set_option maxHeartbeats 4000000 in
set_option maxRecDepth 20000 in
theorem k_X0_keepIfBetter (l : Launch) (G : va_G) (Y : Nat → Nat) (z : Nat) (lf : Nat → Nat) (tk bt : Nat → Int32) (sv sm : Nat) (hx1 : sm < 2 ^ 31) (hx2 : sv < 2 ^ 31) : CtV l yX0_keepIfBetter cX0_keepIfBetter 2 1 60 [.ref z, .int (nI sm)] [asgW Y z lf tk bt (mw sv)] (fun sg => sg = [asgW Y z lf tk (if sv ≤ sm then va_cpy tk bt 0 0 6 else bt) (mw (if sv ≤ sm then sm + 1 else sv))]) G Y := by
  refine x_ofV (by decide) (Nat.le_of_ble_eq_true rfl) (fun p e s m args below meth c A ls Q M hK hZ hw hl hret => ?_)
  obtain ⟨hx, hb, -⟩ := id M
  have hl : lv_has ls 2 [(0, .ref z), (1, .int (nI sm))] := hl
  refine lv_iload_n hx hb dX0_keepIfBetter_0 rfl (lv_at hl 1 rfl) ?_
  refine lv_aload_n hx hb dX0_keepIfBetter_1 rfl (lv_at hl 0 rfl) ?_
  refine x_get M hK hw 0 0 rfl rfl ff_X0_26 rfl dX0_keepIfBetter_2 ?_
  refine lv_icmp_le (tgt := 28) hx hb dX0_keepIfBetter_5 (by decide) (fun c_1 => ?_) (fun c_1 => ?_)
  · exact hret _ _ _ _ _ dX0_keepIfBetter_28 hw rfl (by have hq := (nI_le_mw hx1 hx2).mp c_1; rw [if_neg (by omega), if_neg (by omega)])
  refine lv_aload_n hx hb dX0_keepIfBetter_8 rfl (lv_at hl 0 rfl) ?_
  refine lv_iload_n hx hb dX0_keepIfBetter_9 rfl (lv_at hl 1 rfl) ?_
  refine x_put M hK hw 0 0 rfl rfl fp_X0_26 rfl rfl (Nat.le_of_ble_eq_true rfl) dX0_keepIfBetter_10 (fun H locs hw => ?_)
  have hw : xW G A s.heap [asgW Y z lf tk bt (nI sm)] H locs := hw
  refine lv_aload_n hx hb dX0_keepIfBetter_13 rfl (lv_at hl 0 rfl) ?_
  refine x_get M hK hw 0 0 rfl rfl ff_X0_15 rfl dX0_keepIfBetter_14 ?_
  refine lv_iconst (v := (nI 0)) hx hb dX0_keepIfBetter_17 (by decide) ?_
  refine lv_aload_n hx hb dX0_keepIfBetter_18 rfl (lv_at hl 0 rfl) ?_
  refine x_get M hK hw 0 0 rfl rfl ff_X0_18 rfl dX0_keepIfBetter_19 ?_
  refine lv_iconst (v := (nI 0)) hx hb dX0_keepIfBetter_22 (by decide) ?_
  refine lv_bipush (v := (nI 6)) hx hb dX0_keepIfBetter_23 (by decide) ?_
  refine x_copy M hK hw hl.1 mw_899 mw_265 mw_264 mw_18 0 2 0 3 rfl rfl rfl rfl (by decide) (by decide) (by decide) ⟨by decide, by decide⟩ (Nat.le_of_ble_eq_true rfl) dX0_keepIfBetter_25 (fun H locs hw => ?_)
  have hw : xW G A s.heap [asgW Y z lf tk (va_cpy tk bt 0 0 6) (nI sm)] H locs := hw
  exact hret _ _ _ _ _ dX0_keepIfBetter_28 hw rfl (by have hq := mt (nI_le_mw hx1 hx2).mpr c_1; rw [if_pos (by omega), if_pos (by omega), mw_s])
set_option maxHeartbeats 4000000 in
set_option maxRecDepth 20000 in
theorem k_X0_tryFrom_0 (l : Launch) (G : va_G) (Y : Nat → Nat) (z h : Nat) (lf : Nat → Nat) (tk bt : Nat → Int32) (ρ : Nat → Nat) (γ : Nat → Nat → Nat) (w mq b cc sm : Nat) (sv : Nat × Nat) (hI : Inv ρ) (hw6 : w ≤ 6) (hfe : feaP ρ w mq b cc) (hlf : lfOk ρ mq b cc lf) (htk : ∀ q, q < b → tk q = mw (dP b cc q)) (hbt : BT ρ bt sv) (hgd : goodS ρ w (ρ 4) sv) (hsm : sm = wP ρ b cc) (hbn : b ≤ ρ 4) (hbq : ρ 4 ≤ b + 0) : CtV l yX0_tryFrom cX0_tryFrom 7 2 81 [.ref z, .ref h, .int (mw w), .int (nI b), .int (nI sm)] [asgW Y z lf tk bt (mw sv.1), aucW Y h ρ γ] (fun sg => ∃ (tk' bt' : Nat → Int32), (∀ q, q < b → tk' q = tk q) ∧ BT ρ bt' (FB ρ w mq (ρ 4 - b) b cc sv) ∧ sg = [asgW Y z lf tk' bt' (mw (FB ρ w mq (ρ 4 - b) b cc sv).1), aucW Y h ρ γ]) G Y := by
  refine x_ofV (by decide) (Nat.le_of_ble_eq_true rfl) (fun p e s m args below meth c A ls Q M hK hZ hw hl hret => ?_)
  obtain ⟨hx, hb, -⟩ := id M
  have hl : lv_has ls 7 [(0, .ref z), (1, .ref h), (2, .int (mw w)), (3, .int (nI b)), (4, .int (nI sm))] := hl
  have := hI.n6
  have := hI.over
  have := hI.keep
  have := hI.stepp
  have hsb := wP_le hI hbn hfe.1
  refine lv_iload_n hx hb dX0_tryFrom_0 rfl (lv_at hl 3 rfl) ?_
  refine lv_aload_n hx hb dX0_tryFrom_1 rfl (lv_at hl 1 rfl) ?_
  refine x_get M hK hw 1 0 rfl rfl ff_X0_34 rfl dX0_tryFrom_2 ?_
  refine x_cge M (tgt := 14) (by omega) (by omega) dX0_tryFrom_5 (by decide) (fun c_1 => ?_) (fun c_1 => absurd c_1 (by omega))
  refine lv_aload_n hx hb dX0_tryFrom_14 rfl (lv_at hl 0 rfl) ?_
  refine lv_iload hx hb dX0_tryFrom_15 (lv_at hl 4 rfl) ?_
  refine x_cVV (As := [.int (nI sm)]) (k_X0_keepIfBetter l G Y z lf tk bt sv.1 sm (by subst hsm; have := wP_le hI hbn hfe.1; omega) (by have := hgd.1; omega)) cw_X0_37 [0] 0 0 M hK hZ hw hl.1 rfl (by decide) rfl rfl rfl ⟨by decide, by decide⟩ ⟨Nat.zero_le _, Nat.zero_le _⟩ rfl rfl (Nat.le_of_ble_eq_true rfl) dX0_tryFrom_17 (fun sg h_2 H locs hw => ?_)
  obtain rfl := h_2
  have hw : xW G A s.heap [asgW Y z lf tk (if sv.1 ≤ sm then va_cpy tk bt 0 0 6 else bt) (mw (if sv.1 ≤ sm then sm + 1 else sv.1)), aucW Y h ρ γ] H locs := hw
  subst hsm
  have hz0 : ρ 4 - b = 0 := by omega
  rw [keep_bw hfe] at hw
  exact hret _ _ _ _ _ dX0_tryFrom_20 hw rfl ⟨tk, _, fun _ _ => rfl, by rw [hz0]; exact keep_bt hI (by omega) hfe htk hbt, by rw [hz0]⟩
set_option maxHeartbeats 4000000 in
set_option maxRecDepth 20000 in
theorem k_X0_tryWith_0 (l : Launch) (G : va_G) (Y : Nat → Nat) (z h : Nat) (lf : Nat → Nat) (tk bt : Nat → Int32) (ρ : Nat → Nat) (γ : Nat → Nat → Nat) (w mq b cc sm : Nat) (sv : Nat × Nat) (d : Nat) (hI : Inv ρ) (hw6 : w ≤ 6) (hfe : feaP ρ w mq b cc) (hlf : lfOk ρ mq b cc lf) (htk : ∀ q, q < b → tk q = mw (dP b cc q)) (hbt : BT ρ bt sv) (hgd : goodS ρ w (ρ 4) sv) (hsm : sm = wP ρ b cc) (hbn : b < ρ 4) (hbq : ρ 4 ≤ b + 1 + 0) (hd5 : d < 5) (hdp : d ≤ ρ (22 + 21 * b) + 1 ∧ (w = b + 1 → d = 0)) : CtV l yX0_tryWith cX0_tryWith 6 3 107 [.ref z, .ref h, .int (mw w), .int (nI b), .int (mw d), .int (nI sm)] [asgW Y z lf tk bt (mw sv.1), aucW Y h ρ γ] (fun sg => ∃ (tk' bt' : Nat → Int32), (∀ q, q < b → tk' q = tk q) ∧ BT ρ bt' (FB ρ w mq (ρ 4 - (b + 1)) (b + 1) (5 * cc + d) sv) ∧ sg = [asgW Y z lf tk' bt' (mw (FB ρ w mq (ρ 4 - (b + 1)) (b + 1) (5 * cc + d) sv).1), aucW Y h ρ γ]) G Y := by
  refine x_ofV (by decide) (Nat.le_of_ble_eq_true rfl) (fun p e s m args below meth c A ls Q M hK hZ hw hl hret => ?_)
  obtain ⟨hx, hb, -⟩ := id M
  have hl : lv_has ls 6 [(0, .ref z), (1, .ref h), (2, .int (mw w)), (3, .int (nI b)), (4, .int (mw d)), (5, .int (nI sm))] := hl
  have hpk := hI.pck (j := b) (by omega) rfl
  obtain ⟨hdp1, hdp2⟩ := id hdp
  have hsb := wP_le hI (Nat.le_of_lt hbn) hfe.1
  have := hI.n6
  have := hI.over
  have := hI.keep
  have := hI.stepp
  refine lv_aload_n hx hb dX0_tryWith_0 rfl (lv_at hl 0 rfl) ?_
  refine x_get M hK hw 0 0 rfl rfl ff_X0_15 rfl dX0_tryWith_1 ?_
  refine lv_iload_n hx hb dX0_tryWith_4 rfl (lv_at hl 3 rfl) ?_
  refine lv_iload hx hb dX0_tryWith_5 (lv_at hl 4 rfl) ?_
  refine x_iast M hK hw 0 2 rfl rfl (by omega) (by decide) dX0_tryWith_7 (fun H locs hw => ?_)
  have hw : xW G A s.heap [asgW Y z lf (upd tk b (mw d)) bt (mw sv.1), aucW Y h ρ γ] H locs := hw
  refine lv_iload hx hb dX0_tryWith_8 (lv_at hl 4 rfl) ?_
  refine lv_iconst (v := (mw 0)) hx hb dX0_tryWith_10 (by decide) ?_
  refine lv_icmp_ne (tgt := 28) hx hb dX0_tryWith_11 (by decide) (fun c_1 => ?_) (fun c_1 => ?_)
  · have hd0 : 0 < d := Nat.pos_of_ne_zero (fun z => c_1 (by rw [z]))
    rw [mw_p hd0] at hl
    refine lv_aload_n hx hb dX0_tryWith_28 rfl (lv_at hl 0 rfl) ?_
    refine lv_aload_n hx hb dX0_tryWith_29 rfl (lv_at hl 1 rfl) ?_
    refine lv_iload_n hx hb dX0_tryWith_30 rfl (lv_at hl 3 rfl) ?_
    refine lv_iload hx hb dX0_tryWith_31 (lv_at hl 4 rfl) ?_
    refine x_cVI (As := [.ref h, .int (nI b), .int (nI (d - 1))]) (k_X0_fits l G Y z h lf (upd tk b (mw d)) bt (mw sv.1) ρ γ b (d - 1) (hI) (by omega) (by omega) (fun k hk => lf_le hI hlf hk)) cw_X0_48 [0, 1] 0 0 M hK hZ hw hl.1 rfl (by decide) rfl rfl rfl ⟨by decide, by decide⟩ ⟨Nat.zero_le _, Nat.zero_le _⟩ rfl rfl (Nat.le_of_ble_eq_true rfl) dX0_tryWith_33 (fun r sg h_2 H locs hw => ?_)
    obtain ⟨rfl, rfl⟩ := h_2
    have hw : xW G A s.heap [asgW Y z lf (upd tk b (mw d)) bt (mw sv.1), aucW Y h ρ γ] H locs := hw
    refine x_beq M (tgt := 76) dX0_tryWith_36 (by decide) (fun c_3 => ?_) (fun c_3 => ?_)
    · have hE : FB ρ w mq (ρ 4 - (b + 1)) (b + 1) (5 * cc + d) sv = sv := FB_skip (fea_chN hd5 (fit_not hlf hd0 (of_decide_eq_false c_3)))
      exact hret _ _ _ _ _ dX0_tryWith_76 hw rfl ⟨_, bt, tk_upd, by rw [hE]; exact hbt, by rw [hE]⟩
    have hfit : fitA lf ρ b (d - 1) := of_decide_eq_true c_3
    have hf1 : feaP ρ w mq (b + 1) (5 * cc + d) := fea_ch hd5 hfe hdp.1 hdp.2 (fit_all hlf hd0 hfit)
    refine lv_aload_n hx hb dX0_tryWith_39 rfl (lv_at hl 0 rfl) ?_
    refine lv_aload_n hx hb dX0_tryWith_40 rfl (lv_at hl 1 rfl) ?_
    refine lv_iload_n hx hb dX0_tryWith_41 rfl (lv_at hl 3 rfl) ?_
    refine lv_iload hx hb dX0_tryWith_42 (lv_at hl 4 rfl) ?_
    refine lv_iconst (v := (nI 1)) hx hb dX0_tryWith_44 (by decide) ?_
    refine x_cVV (As := [.ref h, .int (nI b), .int (nI (d - 1)), .int (nI 1)]) (k_X0_take_t l G Y z h lf (upd tk b (mw d)) bt (mw sv.1) ρ γ b (d - 1) (hI) (by omega) (by omega) (fun k hk => lf_le hI hlf hk) (hfit)) cw_X0_52 [0, 1] 0 0 M hK hZ hw hl.1 rfl (by decide) rfl rfl rfl ⟨by decide, by decide⟩ ⟨Nat.zero_le _, Nat.zero_le _⟩ rfl rfl (Nat.le_of_ble_eq_true rfl) dX0_tryWith_45 (fun sg h_4 H locs hw => ?_)
    obtain rfl := h_4
    have hw : xW G A s.heap [asgW Y z (tkM lf ρ b (d - 1)) (upd tk b (mw d)) bt (mw sv.1), aucW Y h ρ γ] H locs := hw
    refine lv_aload_n hx hb dX0_tryWith_48 rfl (lv_at hl 0 rfl) ?_
    refine lv_aload_n hx hb dX0_tryWith_49 rfl (lv_at hl 1 rfl) ?_
    refine lv_iload_n hx hb dX0_tryWith_50 rfl (lv_at hl 2 rfl) ?_
    refine lv_iload_n hx hb dX0_tryWith_51 rfl (lv_at hl 3 rfl) ?_
    refine lv_iconst (v := (nI 1)) hx hb dX0_tryWith_52 (by decide) ?_
    refine x_iadd M (n := 1 + b) dX0_tryWith_53 (by omega) ?_
    refine x_topN (n := (b + 1)) (congrArg nI (by omega)) ?_
    refine lv_iload hx hb dX0_tryWith_54 (lv_at hl 5 rfl) ?_
    refine lv_aload_n hx hb dX0_tryWith_56 rfl (lv_at hl 1 rfl) ?_
    refine lv_iload_n hx hb dX0_tryWith_57 rfl (lv_at hl 3 rfl) ?_
    refine lv_iload hx hb dX0_tryWith_58 (lv_at hl 4 rfl) ?_
    refine x_cVI (As := [.int (nI b), .int (nI (d - 1))]) (k_X1_packValue l G Y h b (d - 1) ρ γ (hI) (by omega) (by omega)) cw_X0_55 [1] 1 0 M hK hZ hw hl.1 rfl (by decide) rfl rfl rfl ⟨by decide, by decide⟩ ⟨Nat.zero_le _, Nat.zero_le _⟩ rfl rfl (Nat.le_of_ble_eq_true rfl) dX0_tryWith_60 (fun r sg h_5 H locs hw => ?_)
    obtain ⟨rfl, rfl⟩ := h_5
    have hw : xW G A s.heap [asgW Y z (tkM lf ρ b (d - 1)) (upd tk b (mw d)) bt (mw sv.1), aucW Y h ρ γ] H locs := hw
    have q_6 : worOf ρ b (d - 1) ≤ 2699973 := worOf_le hI (by omega) (by omega)
    refine x_iadd M (n := sm + worOf ρ b (d - 1)) dX0_tryWith_63 rfl ?_
    refine x_cVV (As := [.ref h, .int (mw w), .int (nI (b + 1)), .int (nI (sm + worOf ρ b (d - 1)))]) (k_X0_tryFrom_0 l G Y z h (tkM lf ρ b (d - 1)) (upd tk b (mw d)) bt ρ γ w mq (b + 1) (5 * cc + d) (sm + worOf ρ b (d - 1)) sv (hI) (hw6) (hf1) (lf_take hlf hd0 hd5) (tk_set htk hd5) (hbt) (hgd) (by rw [wP_ch hd5, ← hsm]; unfold wOf; rw [if_neg (by omega)]) (by omega) (by omega)) cw_X0_30 [0, 1] 0 0 M hK hZ hw hl.1 rfl (by decide) rfl rfl rfl ⟨by decide, by decide⟩ ⟨Nat.zero_le _, Nat.zero_le _⟩ rfl rfl (Nat.le_of_ble_eq_true rfl) dX0_tryWith_64 (fun sg h_7 H locs hw => ?_)
    obtain ⟨tka8, bta9, hta10, htb11, rfl⟩ := h_7
    have hw : xW G A s.heap [asgW Y z (tkM lf ρ b (d - 1)) tka8 bta9 (mw (FB ρ w mq (ρ 4 - (b + 1)) (b + 1) (5 * cc + d) sv).1), aucW Y h ρ γ] H locs := hw
    refine lv_aload_n hx hb dX0_tryWith_67 rfl (lv_at hl 0 rfl) ?_
    refine lv_aload_n hx hb dX0_tryWith_68 rfl (lv_at hl 1 rfl) ?_
    refine lv_iload_n hx hb dX0_tryWith_69 rfl (lv_at hl 3 rfl) ?_
    refine lv_iload hx hb dX0_tryWith_70 (lv_at hl 4 rfl) ?_
    refine lv_iconst (v := (-1)) hx hb dX0_tryWith_72 (by decide) ?_
    refine x_cVV (As := [.ref h, .int (nI b), .int (nI (d - 1)), .int (-1)]) (k_X0_take_g l G Y z h (tkM lf ρ b (d - 1)) tka8 bta9 (mw (FB ρ w mq (ρ 4 - (b + 1)) (b + 1) (5 * cc + d) sv).1) ρ γ b (d - 1) (hI) (by omega) (by omega) (fun k hk => lf_le hI (lf_take hlf hd0 hd5) hk)) cw_X0_52 [0, 1] 0 0 M hK hZ hw hl.1 rfl (by decide) rfl rfl rfl ⟨by decide, by decide⟩ ⟨Nat.zero_le _, Nat.zero_le _⟩ rfl rfl (Nat.le_of_ble_eq_true rfl) dX0_tryWith_73 (fun sg h_12 H locs hw => ?_)
    obtain rfl := h_12
    have hw : xW G A s.heap [asgW Y z (tkP (tkM lf ρ b (d - 1)) ρ b (d - 1)) tka8 bta9 (mw (FB ρ w mq (ρ 4 - (b + 1)) (b + 1) (5 * cc + d) sv).1), aucW Y h ρ γ] H locs := hw
    rw [tk_back hfit] at hw
    have hw : xW G A s.heap [asgW Y z lf tka8 bta9 (mw (FB ρ w mq (ρ 4 - (b + 1)) (b + 1) (5 * cc + d) sv).1), aucW Y h ρ γ] H locs := hw
    exact hret _ _ _ _ _ dX0_tryWith_76 hw rfl ⟨tka8, bta9, tk_low hta10, htb11, rfl⟩
  obtain rfl : d = 0 := mw_inj (by omega) (by decide) c_1
  have hf1 : feaP ρ w mq (b + 1) (5 * cc + 0) := fea_ch (by decide) hfe (Nat.zero_le _) (fun _ => rfl) (fun k hk => Nat.zero_le _)
  have hw : xW G A s.heap [asgW Y z lf (upd tk b (mw 0)) bt (mw sv.1), aucW Y h ρ γ] H locs := hw
  refine lv_aload_n hx hb dX0_tryWith_14 rfl (lv_at hl 0 rfl) ?_
  refine lv_aload_n hx hb dX0_tryWith_15 rfl (lv_at hl 1 rfl) ?_
  refine lv_iload_n hx hb dX0_tryWith_16 rfl (lv_at hl 2 rfl) ?_
  refine lv_iload_n hx hb dX0_tryWith_17 rfl (lv_at hl 3 rfl) ?_
  refine lv_iconst (v := (nI 1)) hx hb dX0_tryWith_18 (by decide) ?_
  refine x_iadd M (n := 1 + b) dX0_tryWith_19 (by omega) ?_
  refine x_topN (n := (b + 1)) (congrArg nI (by omega)) ?_
  refine lv_iload hx hb dX0_tryWith_20 (lv_at hl 5 rfl) ?_
  refine x_cVV (As := [.ref h, .int (mw w), .int (nI (b + 1)), .int (nI sm)]) (k_X0_tryFrom_0 l G Y z h lf (upd tk b (mw 0)) bt ρ γ w mq (b + 1) (5 * cc + 0) sm sv (hI) (hw6) (hf1) (lf_none hlf) (tk_set htk (by decide)) (hbt) (hgd) (by rw [wP_ch (by decide)]; exact hsm) (by omega) (by omega)) cw_X0_30 [0, 1] 0 0 M hK hZ hw hl.1 rfl (by decide) rfl rfl rfl ⟨by decide, by decide⟩ ⟨Nat.zero_le _, Nat.zero_le _⟩ rfl rfl (Nat.le_of_ble_eq_true rfl) dX0_tryWith_22 (fun sg h_13 H locs hw => ?_)
  obtain ⟨tka14, bta15, hta16, htb17, rfl⟩ := h_13
  have hw : xW G A s.heap [asgW Y z lf tka14 bta15 (mw (FB ρ w mq (ρ 4 - (b + 1)) (b + 1) (5 * cc + 0) sv).1), aucW Y h ρ γ] H locs := hw
  refine lv_goto (tgt := 76) hx hb dX0_tryWith_25 (by decide) ?_
  exact hret _ _ _ _ _ dX0_tryWith_76 hw rfl ⟨tka14, bta15, tk_low hta16, htb17, rfl⟩
set_option maxHeartbeats 4000000 in
set_option maxRecDepth 20000 in
theorem k_X0_tryFrom_1 (l : Launch) (G : va_G) (Y : Nat → Nat) (z h : Nat) (lf : Nat → Nat) (tk bt : Nat → Int32) (ρ : Nat → Nat) (γ : Nat → Nat → Nat) (w mq b cc sm : Nat) (sv : Nat × Nat) (hI : Inv ρ) (hw6 : w ≤ 6) (hfe : feaP ρ w mq b cc) (hlf : lfOk ρ mq b cc lf) (htk : ∀ q, q < b → tk q = mw (dP b cc q)) (hbt : BT ρ bt sv) (hgd : goodS ρ w (ρ 4) sv) (hsm : sm = wP ρ b cc) (hbn : b ≤ ρ 4) (hbq : ρ 4 ≤ b + 1) : CtV l yX0_tryFrom cX0_tryFrom 7 4 132 [.ref z, .ref h, .int (mw w), .int (nI b), .int (nI sm)] [asgW Y z lf tk bt (mw sv.1), aucW Y h ρ γ] (fun sg => ∃ (tk' bt' : Nat → Int32), (∀ q, q < b → tk' q = tk q) ∧ BT ρ bt' (FB ρ w mq (ρ 4 - b) b cc sv) ∧ sg = [asgW Y z lf tk' bt' (mw (FB ρ w mq (ρ 4 - b) b cc sv).1), aucW Y h ρ γ]) G Y := by
  refine x_ofV (by decide) (Nat.le_of_ble_eq_true rfl) (fun p e s m args below meth c A ls Q M hK hZ hw hl hret => ?_)
  obtain ⟨hx, hb, -⟩ := id M
  have hl : lv_has ls 7 [(0, .ref z), (1, .ref h), (2, .int (mw w)), (3, .int (nI b)), (4, .int (nI sm))] := hl
  have := hI.n6
  have := hI.over
  have := hI.keep
  have := hI.stepp
  have hsb := wP_le hI hbn hfe.1
  refine lv_iload_n hx hb dX0_tryFrom_0 rfl (lv_at hl 3 rfl) ?_
  refine lv_aload_n hx hb dX0_tryFrom_1 rfl (lv_at hl 1 rfl) ?_
  refine x_get M hK hw 1 0 rfl rfl ff_X0_34 rfl dX0_tryFrom_2 ?_
  refine x_cge M (tgt := 14) (by omega) (by omega) dX0_tryFrom_5 (by decide) (fun c_1 => ?_) (fun c_1 => ?_)
  · refine lv_aload_n hx hb dX0_tryFrom_14 rfl (lv_at hl 0 rfl) ?_
    refine lv_iload hx hb dX0_tryFrom_15 (lv_at hl 4 rfl) ?_
    refine x_cVV (As := [.int (nI sm)]) (k_X0_keepIfBetter l G Y z lf tk bt sv.1 sm (by subst hsm; have := wP_le hI hbn hfe.1; omega) (by have := hgd.1; omega)) cw_X0_37 [0] 0 0 M hK hZ hw hl.1 rfl (by decide) rfl rfl rfl ⟨by decide, by decide⟩ ⟨Nat.zero_le _, Nat.zero_le _⟩ rfl rfl (Nat.le_of_ble_eq_true rfl) dX0_tryFrom_17 (fun sg h_2 H locs hw => ?_)
    obtain rfl := h_2
    have hw : xW G A s.heap [asgW Y z lf tk (if sv.1 ≤ sm then va_cpy tk bt 0 0 6 else bt) (mw (if sv.1 ≤ sm then sm + 1 else sv.1)), aucW Y h ρ γ] H locs := hw
    subst hsm
    have hz0 : ρ 4 - b = 0 := by omega
    rw [keep_bw hfe] at hw
    exact hret _ _ _ _ _ dX0_tryFrom_20 hw rfl ⟨tk, _, fun _ _ => rfl, by rw [hz0]; exact keep_bt hI (by omega) hfe htk hbt, by rw [hz0]⟩
  refine lv_iload_n hx hb dX0_tryFrom_8 rfl (lv_at hl 3 rfl) ?_
  refine lv_bipush (v := (nI 6)) hx hb dX0_tryFrom_9 (by decide) ?_
  refine x_clt M (tgt := 21) (by omega) (by decide) dX0_tryFrom_11 (by decide) (fun c_3 => ?_) (fun c_3 => absurd c_3 (by omega))
  have hpk := hI.pck (j := b) (by omega) rfl
  have L36 : ∀ (lq : Nat), (lq = if w = b + 1 then 0 else ρ (22 + 21 * b) + 1) → ∀ (H : Heap) (locs : List Loc), xW G A s.heap [asgW Y z lf tk bt (mw sv.1), aucW Y h ρ γ] H locs → ∀ (ls : Array Slot), lv_has ls 7 [(0, .ref z), (1, .ref h), (2, .int (mw w)), (3, .int (nI b)), (4, .int (nI sm))] → W p l e (xRm 4 132) s m args below meth c H locs 0 0 Q (F0 m 36 ls [.int (mw lq)]) := by
    intro lq hlq H locs hw ls hl
    have hlq4 : lq ≤ 4 := by rw [hlq]; split <;> omega
    refine lv_istore (lv' := [(5, .int (mw lq)), (0, .ref z), (1, .ref h), (2, .int (mw w)), (3, .int (nI b)), (4, .int (nI sm))]) hx hb dX0_tryFrom_36 hl (by decide) rfl (fun ls hl => ?_)
    have hr1 : ρ 4 - b = (ρ 4 - (b + 1)) + 1 := by omega
    refine lv_iconst (v := (mw 0)) hx hb dX0_tryFrom_38 (by decide) ?_
    refine lv_istore (lv' := [(6, .int (mw 0)), (5, .int (mw lq)), (0, .ref z), (1, .ref h), (2, .int (mw w)), (3, .int (nI b)), (4, .int (nI sm))]) hx hb dX0_tryFrom_39 hl (by decide) rfl (fun ls hl => ?_)
    have L41 : ∀ (fu : Nat) (d : Nat) (tk2 : Nat → Int32) (bt2 : Nat → Int32), (1 + lq - d < fu) → (d ≤ 1 + lq) → (∀ q, q < b → tk2 q = tk q) → (BT ρ bt2 (FC ρ w mq (ρ 4 - (b + 1)) b cc sv d)) → ∀ (H : Heap) (locs : List Loc), xW G A s.heap [asgW Y z lf tk2 bt2 (mw (FC ρ w mq (ρ 4 - (b + 1)) b cc sv d).1), aucW Y h ρ γ] H locs → ∀ (ls : Array Slot), lv_has ls 7 [(0, .ref z), (1, .ref h), (2, .int (mw w)), (3, .int (nI b)), (4, .int (nI sm)), (5, .int (mw lq)), (6, .int (mw d))] → W p l e (xRm 4 132) s m args below meth c H locs 0 0 Q (F0 m 41 ls []) := by
      intro fu
      induction fu with
      | zero => intro d tk2 bt2 hm; exact absurd hm (Nat.not_lt_zero _)
      | succ fu ih41 =>
        intro d tk2 bt2 hm hd htk2 hbt2 H locs hw ls hl
        have hgd2 : goodS ρ w (ρ 4) (FC ρ w mq (ρ 4 - (b + 1)) b cc sv d) := by have := good_FC (m := mq) (c := cc) (b := b) (r := ρ 4 - (b + 1)) (s := sv) (d := d) (w := w) hI (by omega) (by rw [show b + (ρ 4 - (b + 1) + 1) = ρ 4 by omega]; exact hgd); rw [show b + (ρ 4 - (b + 1) + 1) = ρ 4 by omega] at this; exact this
        refine lv_iload hx hb dX0_tryFrom_41 (lv_at hl 6 rfl) ?_
        refine lv_iload hx hb dX0_tryFrom_43 (lv_at hl 5 rfl) ?_
        refine lv_icmp_gt (tgt := 65) hx hb dX0_tryFrom_45 (by decide) (fun c_4 => ?_) (fun c_4 => ?_)
        · have hdl : lq < d := (mw_lt (by omega) (by omega)).mp c_4
          have hE : FC ρ w mq (ρ 4 - (b + 1)) b cc sv d = FB ρ w mq (ρ 4 - b) b cc sv := by rw [hr1]; exact FC_end (by omega) (fun q h1 h2 => fea_chO h2 (by by_cases hz : w = b + 1; (rw [if_pos hz] at hlq; exact Or.inr ⟨hz, by omega⟩); (rw [if_neg hz] at hlq; exact Or.inl (by omega))))
          exact hret _ _ _ _ _ dX0_tryFrom_65 hw rfl ⟨tk2, bt2, htk2, by rw [← hE]; exact hbt2, by rw [← hE]⟩
        have hdl : d ≤ lq := by have := mt (mw_lt (a := lq) (b := d) (by omega) (by omega)).mpr (by first | exact c_4 | (rw [Int32.not_lt]; exact Int32.not_lt.mp c_4)); omega
        have hdp : d ≤ ρ (22 + 21 * b) + 1 ∧ (w = b + 1 → d = 0) := by by_cases hz : w = b + 1; (rw [if_pos hz] at hlq; exact ⟨by omega, fun _ => by omega⟩); (rw [if_neg hz] at hlq; exact ⟨by omega, fun z => absurd z hz⟩)
        refine lv_aload_n hx hb dX0_tryFrom_48 rfl (lv_at hl 0 rfl) ?_
        refine lv_aload_n hx hb dX0_tryFrom_49 rfl (lv_at hl 1 rfl) ?_
        refine lv_iload_n hx hb dX0_tryFrom_50 rfl (lv_at hl 2 rfl) ?_
        refine lv_iload_n hx hb dX0_tryFrom_51 rfl (lv_at hl 3 rfl) ?_
        refine lv_iload hx hb dX0_tryFrom_52 (lv_at hl 6 rfl) ?_
        refine lv_iload hx hb dX0_tryFrom_54 (lv_at hl 4 rfl) ?_
        refine x_cVV (As := [.ref h, .int (mw w), .int (nI b), .int (mw d), .int (nI sm)]) (k_X0_tryWith_0 l G Y z h lf tk2 bt2 ρ γ w mq b cc sm (FC ρ w mq (ρ 4 - (b + 1)) b cc sv d) d (hI) (hw6) (hfe) (hlf) (fun q hq => (htk2 q hq).trans (htk q hq)) (hbt2) (hgd2) (hsm) (by omega) (by omega) (by omega) (hdp)) cw_X0_44 [0, 1] 0 0 M hK hZ hw hl.1 rfl (by decide) rfl rfl rfl ⟨by decide, by decide⟩ ⟨Nat.zero_le _, Nat.zero_le _⟩ rfl rfl (Nat.le_of_ble_eq_true rfl) dX0_tryFrom_56 (fun sg h_5 H locs hw => ?_)
        obtain ⟨tka6, bta7, hta8, htb9, rfl⟩ := h_5
        have hw : xW G A s.heap [asgW Y z lf tka6 bta7 (mw (FB ρ w mq (ρ 4 - (b + 1)) (b + 1) (5 * cc + d) (FC ρ w mq (ρ 4 - (b + 1)) b cc sv d)).1), aucW Y h ρ γ] H locs := hw
        rw [← FC_1] at hw
        refine lv_iinc (v := ((mw d) + Int32.ofInt (1))) (lv' := [(6, .int ((mw d) + Int32.ofInt (1))), (0, .ref z), (1, .ref h), (2, .int (mw w)), (3, .int (nI b)), (4, .int (nI sm)), (5, .int (mw lq))]) hx hb dX0_tryFrom_59 hl (k := 6) rfl rfl (by decide) rfl (fun ls hl => ?_)
        rw [mw_inc] at hl
        refine lv_goto (tgt := 41) hx hb dX0_tryFrom_62 (by decide) ?_
        exact ih41 (1 + d) tka6 bta7 (by omega) (by omega) (fun q hq => (hta8 q hq).trans (htk2 q hq)) (by rw [FC_1]; exact htb9) _ _ hw _ (lv_sub hl [1, 2, 3, 4, 5, 6, 0] rfl)
    exact L41 (1 + lq - 0 + 1) 0 tk bt (Nat.lt_succ_self _) (by omega) (fun _ _ => rfl) (hbt) _ _ hw _ (lv_sub hl [2, 3, 4, 5, 6, 1, 0] rfl)
  refine lv_iload_n hx hb dX0_tryFrom_21 rfl (lv_at hl 3 rfl) ?_
  refine lv_iload_n hx hb dX0_tryFrom_22 rfl (lv_at hl 2 rfl) ?_
  refine lv_icmp_ne (tgt := 30) hx hb dX0_tryFrom_23 (by decide) (fun c_10 => ?_) (fun c_10 => ?_)
  · have w1_11 : ¬ w = b + 1 := fun z => c_10 ((nI_mw (by omega) (by omega)).mpr z)
    refine lv_aload_n hx hb dX0_tryFrom_30 rfl (lv_at hl 1 rfl) ?_
    refine x_get M hK hw 1 0 rfl rfl ff_X0_41 rfl dX0_tryFrom_31 ?_
    refine lv_iload_n hx hb dX0_tryFrom_34 rfl (lv_at hl 3 rfl) ?_
    refine x_iald M hK hw 1 6 rfl rfl (by omega) (by decide) dX0_tryFrom_35 ?_
    refine x_topN (n := ρ (22 + 21 * b)) (congrArg nI (pck_at (j := b) (by omega) rfl (by omega))) ?_
    have q_12 : ρ (22 + 21 * b) ≤ 3 := hI.pck (j := b) (by omega) (by omega)
    refine x_topI (y := mw (1 + (ρ (22 + 21 * b)))) mwN_1.symm ?_
    exact L36 (1 + (ρ (22 + 21 * b))) (by first | exact (if_pos w1_11).symm | exact (Nat.add_comm _ _).trans (if_neg w1_11).symm) _ _ hw _ (lv_sub hl [0, 1, 2, 3, 4] rfl)
  have w1_13 : w = b + 1 := (nI_mw (by omega) (by omega)).mp c_10
  refine lv_iconst (v := (mw 0)) hx hb dX0_tryFrom_26 (by decide) ?_
  refine lv_goto (tgt := 36) hx hb dX0_tryFrom_27 (by decide) ?_
  exact L36 0 (by first | exact (if_pos w1_13).symm | exact (Nat.add_comm _ _).trans (if_neg w1_13).symm) _ _ hw _ (lv_sub hl [0, 1, 2, 3, 4] rfl)
set_option maxHeartbeats 4000000 in
set_option maxRecDepth 20000 in
theorem k_X0_tryWith_1 (l : Launch) (G : va_G) (Y : Nat → Nat) (z h : Nat) (lf : Nat → Nat) (tk bt : Nat → Int32) (ρ : Nat → Nat) (γ : Nat → Nat → Nat) (w mq b cc sm : Nat) (sv : Nat × Nat) (d : Nat) (hI : Inv ρ) (hw6 : w ≤ 6) (hfe : feaP ρ w mq b cc) (hlf : lfOk ρ mq b cc lf) (htk : ∀ q, q < b → tk q = mw (dP b cc q)) (hbt : BT ρ bt sv) (hgd : goodS ρ w (ρ 4) sv) (hsm : sm = wP ρ b cc) (hbn : b < ρ 4) (hbq : ρ 4 ≤ b + 1 + 1) (hd5 : d < 5) (hdp : d ≤ ρ (22 + 21 * b) + 1 ∧ (w = b + 1 → d = 0)) : CtV l yX0_tryWith cX0_tryWith 6 5 158 [.ref z, .ref h, .int (mw w), .int (nI b), .int (mw d), .int (nI sm)] [asgW Y z lf tk bt (mw sv.1), aucW Y h ρ γ] (fun sg => ∃ (tk' bt' : Nat → Int32), (∀ q, q < b → tk' q = tk q) ∧ BT ρ bt' (FB ρ w mq (ρ 4 - (b + 1)) (b + 1) (5 * cc + d) sv) ∧ sg = [asgW Y z lf tk' bt' (mw (FB ρ w mq (ρ 4 - (b + 1)) (b + 1) (5 * cc + d) sv).1), aucW Y h ρ γ]) G Y := by
  refine x_ofV (by decide) (Nat.le_of_ble_eq_true rfl) (fun p e s m args below meth c A ls Q M hK hZ hw hl hret => ?_)
  obtain ⟨hx, hb, -⟩ := id M
  have hl : lv_has ls 6 [(0, .ref z), (1, .ref h), (2, .int (mw w)), (3, .int (nI b)), (4, .int (mw d)), (5, .int (nI sm))] := hl
  have hpk := hI.pck (j := b) (by omega) rfl
  obtain ⟨hdp1, hdp2⟩ := id hdp
  have hsb := wP_le hI (Nat.le_of_lt hbn) hfe.1
  have := hI.n6
  have := hI.over
  have := hI.keep
  have := hI.stepp
  refine lv_aload_n hx hb dX0_tryWith_0 rfl (lv_at hl 0 rfl) ?_
  refine x_get M hK hw 0 0 rfl rfl ff_X0_15 rfl dX0_tryWith_1 ?_
  refine lv_iload_n hx hb dX0_tryWith_4 rfl (lv_at hl 3 rfl) ?_
  refine lv_iload hx hb dX0_tryWith_5 (lv_at hl 4 rfl) ?_
  refine x_iast M hK hw 0 2 rfl rfl (by omega) (by decide) dX0_tryWith_7 (fun H locs hw => ?_)
  have hw : xW G A s.heap [asgW Y z lf (upd tk b (mw d)) bt (mw sv.1), aucW Y h ρ γ] H locs := hw
  refine lv_iload hx hb dX0_tryWith_8 (lv_at hl 4 rfl) ?_
  refine lv_iconst (v := (mw 0)) hx hb dX0_tryWith_10 (by decide) ?_
  refine lv_icmp_ne (tgt := 28) hx hb dX0_tryWith_11 (by decide) (fun c_1 => ?_) (fun c_1 => ?_)
  · have hd0 : 0 < d := Nat.pos_of_ne_zero (fun z => c_1 (by rw [z]))
    rw [mw_p hd0] at hl
    refine lv_aload_n hx hb dX0_tryWith_28 rfl (lv_at hl 0 rfl) ?_
    refine lv_aload_n hx hb dX0_tryWith_29 rfl (lv_at hl 1 rfl) ?_
    refine lv_iload_n hx hb dX0_tryWith_30 rfl (lv_at hl 3 rfl) ?_
    refine lv_iload hx hb dX0_tryWith_31 (lv_at hl 4 rfl) ?_
    refine x_cVI (As := [.ref h, .int (nI b), .int (nI (d - 1))]) (k_X0_fits l G Y z h lf (upd tk b (mw d)) bt (mw sv.1) ρ γ b (d - 1) (hI) (by omega) (by omega) (fun k hk => lf_le hI hlf hk)) cw_X0_48 [0, 1] 0 0 M hK hZ hw hl.1 rfl (by decide) rfl rfl rfl ⟨by decide, by decide⟩ ⟨Nat.zero_le _, Nat.zero_le _⟩ rfl rfl (Nat.le_of_ble_eq_true rfl) dX0_tryWith_33 (fun r sg h_2 H locs hw => ?_)
    obtain ⟨rfl, rfl⟩ := h_2
    have hw : xW G A s.heap [asgW Y z lf (upd tk b (mw d)) bt (mw sv.1), aucW Y h ρ γ] H locs := hw
    refine x_beq M (tgt := 76) dX0_tryWith_36 (by decide) (fun c_3 => ?_) (fun c_3 => ?_)
    · have hE : FB ρ w mq (ρ 4 - (b + 1)) (b + 1) (5 * cc + d) sv = sv := FB_skip (fea_chN hd5 (fit_not hlf hd0 (of_decide_eq_false c_3)))
      exact hret _ _ _ _ _ dX0_tryWith_76 hw rfl ⟨_, bt, tk_upd, by rw [hE]; exact hbt, by rw [hE]⟩
    have hfit : fitA lf ρ b (d - 1) := of_decide_eq_true c_3
    have hf1 : feaP ρ w mq (b + 1) (5 * cc + d) := fea_ch hd5 hfe hdp.1 hdp.2 (fit_all hlf hd0 hfit)
    refine lv_aload_n hx hb dX0_tryWith_39 rfl (lv_at hl 0 rfl) ?_
    refine lv_aload_n hx hb dX0_tryWith_40 rfl (lv_at hl 1 rfl) ?_
    refine lv_iload_n hx hb dX0_tryWith_41 rfl (lv_at hl 3 rfl) ?_
    refine lv_iload hx hb dX0_tryWith_42 (lv_at hl 4 rfl) ?_
    refine lv_iconst (v := (nI 1)) hx hb dX0_tryWith_44 (by decide) ?_
    refine x_cVV (As := [.ref h, .int (nI b), .int (nI (d - 1)), .int (nI 1)]) (k_X0_take_t l G Y z h lf (upd tk b (mw d)) bt (mw sv.1) ρ γ b (d - 1) (hI) (by omega) (by omega) (fun k hk => lf_le hI hlf hk) (hfit)) cw_X0_52 [0, 1] 0 0 M hK hZ hw hl.1 rfl (by decide) rfl rfl rfl ⟨by decide, by decide⟩ ⟨Nat.zero_le _, Nat.zero_le _⟩ rfl rfl (Nat.le_of_ble_eq_true rfl) dX0_tryWith_45 (fun sg h_4 H locs hw => ?_)
    obtain rfl := h_4
    have hw : xW G A s.heap [asgW Y z (tkM lf ρ b (d - 1)) (upd tk b (mw d)) bt (mw sv.1), aucW Y h ρ γ] H locs := hw
    refine lv_aload_n hx hb dX0_tryWith_48 rfl (lv_at hl 0 rfl) ?_
    refine lv_aload_n hx hb dX0_tryWith_49 rfl (lv_at hl 1 rfl) ?_
    refine lv_iload_n hx hb dX0_tryWith_50 rfl (lv_at hl 2 rfl) ?_
    refine lv_iload_n hx hb dX0_tryWith_51 rfl (lv_at hl 3 rfl) ?_
    refine lv_iconst (v := (nI 1)) hx hb dX0_tryWith_52 (by decide) ?_
    refine x_iadd M (n := 1 + b) dX0_tryWith_53 (by omega) ?_
    refine x_topN (n := (b + 1)) (congrArg nI (by omega)) ?_
    refine lv_iload hx hb dX0_tryWith_54 (lv_at hl 5 rfl) ?_
    refine lv_aload_n hx hb dX0_tryWith_56 rfl (lv_at hl 1 rfl) ?_
    refine lv_iload_n hx hb dX0_tryWith_57 rfl (lv_at hl 3 rfl) ?_
    refine lv_iload hx hb dX0_tryWith_58 (lv_at hl 4 rfl) ?_
    refine x_cVI (As := [.int (nI b), .int (nI (d - 1))]) (k_X1_packValue l G Y h b (d - 1) ρ γ (hI) (by omega) (by omega)) cw_X0_55 [1] 1 0 M hK hZ hw hl.1 rfl (by decide) rfl rfl rfl ⟨by decide, by decide⟩ ⟨Nat.zero_le _, Nat.zero_le _⟩ rfl rfl (Nat.le_of_ble_eq_true rfl) dX0_tryWith_60 (fun r sg h_5 H locs hw => ?_)
    obtain ⟨rfl, rfl⟩ := h_5
    have hw : xW G A s.heap [asgW Y z (tkM lf ρ b (d - 1)) (upd tk b (mw d)) bt (mw sv.1), aucW Y h ρ γ] H locs := hw
    have q_6 : worOf ρ b (d - 1) ≤ 2699973 := worOf_le hI (by omega) (by omega)
    refine x_iadd M (n := sm + worOf ρ b (d - 1)) dX0_tryWith_63 rfl ?_
    refine x_cVV (As := [.ref h, .int (mw w), .int (nI (b + 1)), .int (nI (sm + worOf ρ b (d - 1)))]) (k_X0_tryFrom_1 l G Y z h (tkM lf ρ b (d - 1)) (upd tk b (mw d)) bt ρ γ w mq (b + 1) (5 * cc + d) (sm + worOf ρ b (d - 1)) sv (hI) (hw6) (hf1) (lf_take hlf hd0 hd5) (tk_set htk hd5) (hbt) (hgd) (by rw [wP_ch hd5, ← hsm]; unfold wOf; rw [if_neg (by omega)]) (by omega) (by omega)) cw_X0_30 [0, 1] 0 0 M hK hZ hw hl.1 rfl (by decide) rfl rfl rfl ⟨by decide, by decide⟩ ⟨Nat.zero_le _, Nat.zero_le _⟩ rfl rfl (Nat.le_of_ble_eq_true rfl) dX0_tryWith_64 (fun sg h_7 H locs hw => ?_)
    obtain ⟨tka8, bta9, hta10, htb11, rfl⟩ := h_7
    have hw : xW G A s.heap [asgW Y z (tkM lf ρ b (d - 1)) tka8 bta9 (mw (FB ρ w mq (ρ 4 - (b + 1)) (b + 1) (5 * cc + d) sv).1), aucW Y h ρ γ] H locs := hw
    refine lv_aload_n hx hb dX0_tryWith_67 rfl (lv_at hl 0 rfl) ?_
    refine lv_aload_n hx hb dX0_tryWith_68 rfl (lv_at hl 1 rfl) ?_
    refine lv_iload_n hx hb dX0_tryWith_69 rfl (lv_at hl 3 rfl) ?_
    refine lv_iload hx hb dX0_tryWith_70 (lv_at hl 4 rfl) ?_
    refine lv_iconst (v := (-1)) hx hb dX0_tryWith_72 (by decide) ?_
    refine x_cVV (As := [.ref h, .int (nI b), .int (nI (d - 1)), .int (-1)]) (k_X0_take_g l G Y z h (tkM lf ρ b (d - 1)) tka8 bta9 (mw (FB ρ w mq (ρ 4 - (b + 1)) (b + 1) (5 * cc + d) sv).1) ρ γ b (d - 1) (hI) (by omega) (by omega) (fun k hk => lf_le hI (lf_take hlf hd0 hd5) hk)) cw_X0_52 [0, 1] 0 0 M hK hZ hw hl.1 rfl (by decide) rfl rfl rfl ⟨by decide, by decide⟩ ⟨Nat.zero_le _, Nat.zero_le _⟩ rfl rfl (Nat.le_of_ble_eq_true rfl) dX0_tryWith_73 (fun sg h_12 H locs hw => ?_)
    obtain rfl := h_12
    have hw : xW G A s.heap [asgW Y z (tkP (tkM lf ρ b (d - 1)) ρ b (d - 1)) tka8 bta9 (mw (FB ρ w mq (ρ 4 - (b + 1)) (b + 1) (5 * cc + d) sv).1), aucW Y h ρ γ] H locs := hw
    rw [tk_back hfit] at hw
    have hw : xW G A s.heap [asgW Y z lf tka8 bta9 (mw (FB ρ w mq (ρ 4 - (b + 1)) (b + 1) (5 * cc + d) sv).1), aucW Y h ρ γ] H locs := hw
    exact hret _ _ _ _ _ dX0_tryWith_76 hw rfl ⟨tka8, bta9, tk_low hta10, htb11, rfl⟩
  obtain rfl : d = 0 := mw_inj (by omega) (by decide) c_1
  have hf1 : feaP ρ w mq (b + 1) (5 * cc + 0) := fea_ch (by decide) hfe (Nat.zero_le _) (fun _ => rfl) (fun k hk => Nat.zero_le _)
  have hw : xW G A s.heap [asgW Y z lf (upd tk b (mw 0)) bt (mw sv.1), aucW Y h ρ γ] H locs := hw
  refine lv_aload_n hx hb dX0_tryWith_14 rfl (lv_at hl 0 rfl) ?_
  refine lv_aload_n hx hb dX0_tryWith_15 rfl (lv_at hl 1 rfl) ?_
  refine lv_iload_n hx hb dX0_tryWith_16 rfl (lv_at hl 2 rfl) ?_
  refine lv_iload_n hx hb dX0_tryWith_17 rfl (lv_at hl 3 rfl) ?_
  refine lv_iconst (v := (nI 1)) hx hb dX0_tryWith_18 (by decide) ?_
  refine x_iadd M (n := 1 + b) dX0_tryWith_19 (by omega) ?_
  refine x_topN (n := (b + 1)) (congrArg nI (by omega)) ?_
  refine lv_iload hx hb dX0_tryWith_20 (lv_at hl 5 rfl) ?_
  refine x_cVV (As := [.ref h, .int (mw w), .int (nI (b + 1)), .int (nI sm)]) (k_X0_tryFrom_1 l G Y z h lf (upd tk b (mw 0)) bt ρ γ w mq (b + 1) (5 * cc + 0) sm sv (hI) (hw6) (hf1) (lf_none hlf) (tk_set htk (by decide)) (hbt) (hgd) (by rw [wP_ch (by decide)]; exact hsm) (by omega) (by omega)) cw_X0_30 [0, 1] 0 0 M hK hZ hw hl.1 rfl (by decide) rfl rfl rfl ⟨by decide, by decide⟩ ⟨Nat.zero_le _, Nat.zero_le _⟩ rfl rfl (Nat.le_of_ble_eq_true rfl) dX0_tryWith_22 (fun sg h_13 H locs hw => ?_)
  obtain ⟨tka14, bta15, hta16, htb17, rfl⟩ := h_13
  have hw : xW G A s.heap [asgW Y z lf tka14 bta15 (mw (FB ρ w mq (ρ 4 - (b + 1)) (b + 1) (5 * cc + 0) sv).1), aucW Y h ρ γ] H locs := hw
  refine lv_goto (tgt := 76) hx hb dX0_tryWith_25 (by decide) ?_
  exact hret _ _ _ _ _ dX0_tryWith_76 hw rfl ⟨tka14, bta15, tk_low hta16, htb17, rfl⟩
set_option maxHeartbeats 4000000 in
set_option maxRecDepth 20000 in
theorem k_X0_tryFrom_2 (l : Launch) (G : va_G) (Y : Nat → Nat) (z h : Nat) (lf : Nat → Nat) (tk bt : Nat → Int32) (ρ : Nat → Nat) (γ : Nat → Nat → Nat) (w mq b cc sm : Nat) (sv : Nat × Nat) (hI : Inv ρ) (hw6 : w ≤ 6) (hfe : feaP ρ w mq b cc) (hlf : lfOk ρ mq b cc lf) (htk : ∀ q, q < b → tk q = mw (dP b cc q)) (hbt : BT ρ bt sv) (hgd : goodS ρ w (ρ 4) sv) (hsm : sm = wP ρ b cc) (hbn : b ≤ ρ 4) (hbq : ρ 4 ≤ b + 2) : CtV l yX0_tryFrom cX0_tryFrom 7 6 183 [.ref z, .ref h, .int (mw w), .int (nI b), .int (nI sm)] [asgW Y z lf tk bt (mw sv.1), aucW Y h ρ γ] (fun sg => ∃ (tk' bt' : Nat → Int32), (∀ q, q < b → tk' q = tk q) ∧ BT ρ bt' (FB ρ w mq (ρ 4 - b) b cc sv) ∧ sg = [asgW Y z lf tk' bt' (mw (FB ρ w mq (ρ 4 - b) b cc sv).1), aucW Y h ρ γ]) G Y := by
  refine x_ofV (by decide) (Nat.le_of_ble_eq_true rfl) (fun p e s m args below meth c A ls Q M hK hZ hw hl hret => ?_)
  obtain ⟨hx, hb, -⟩ := id M
  have hl : lv_has ls 7 [(0, .ref z), (1, .ref h), (2, .int (mw w)), (3, .int (nI b)), (4, .int (nI sm))] := hl
  have := hI.n6
  have := hI.over
  have := hI.keep
  have := hI.stepp
  have hsb := wP_le hI hbn hfe.1
  refine lv_iload_n hx hb dX0_tryFrom_0 rfl (lv_at hl 3 rfl) ?_
  refine lv_aload_n hx hb dX0_tryFrom_1 rfl (lv_at hl 1 rfl) ?_
  refine x_get M hK hw 1 0 rfl rfl ff_X0_34 rfl dX0_tryFrom_2 ?_
  refine x_cge M (tgt := 14) (by omega) (by omega) dX0_tryFrom_5 (by decide) (fun c_1 => ?_) (fun c_1 => ?_)
  · refine lv_aload_n hx hb dX0_tryFrom_14 rfl (lv_at hl 0 rfl) ?_
    refine lv_iload hx hb dX0_tryFrom_15 (lv_at hl 4 rfl) ?_
    refine x_cVV (As := [.int (nI sm)]) (k_X0_keepIfBetter l G Y z lf tk bt sv.1 sm (by subst hsm; have := wP_le hI hbn hfe.1; omega) (by have := hgd.1; omega)) cw_X0_37 [0] 0 0 M hK hZ hw hl.1 rfl (by decide) rfl rfl rfl ⟨by decide, by decide⟩ ⟨Nat.zero_le _, Nat.zero_le _⟩ rfl rfl (Nat.le_of_ble_eq_true rfl) dX0_tryFrom_17 (fun sg h_2 H locs hw => ?_)
    obtain rfl := h_2
    have hw : xW G A s.heap [asgW Y z lf tk (if sv.1 ≤ sm then va_cpy tk bt 0 0 6 else bt) (mw (if sv.1 ≤ sm then sm + 1 else sv.1)), aucW Y h ρ γ] H locs := hw
    subst hsm
    have hz0 : ρ 4 - b = 0 := by omega
    rw [keep_bw hfe] at hw
    exact hret _ _ _ _ _ dX0_tryFrom_20 hw rfl ⟨tk, _, fun _ _ => rfl, by rw [hz0]; exact keep_bt hI (by omega) hfe htk hbt, by rw [hz0]⟩
  refine lv_iload_n hx hb dX0_tryFrom_8 rfl (lv_at hl 3 rfl) ?_
  refine lv_bipush (v := (nI 6)) hx hb dX0_tryFrom_9 (by decide) ?_
  refine x_clt M (tgt := 21) (by omega) (by decide) dX0_tryFrom_11 (by decide) (fun c_3 => ?_) (fun c_3 => absurd c_3 (by omega))
  have hpk := hI.pck (j := b) (by omega) rfl
  have L36 : ∀ (lq : Nat), (lq = if w = b + 1 then 0 else ρ (22 + 21 * b) + 1) → ∀ (H : Heap) (locs : List Loc), xW G A s.heap [asgW Y z lf tk bt (mw sv.1), aucW Y h ρ γ] H locs → ∀ (ls : Array Slot), lv_has ls 7 [(0, .ref z), (1, .ref h), (2, .int (mw w)), (3, .int (nI b)), (4, .int (nI sm))] → W p l e (xRm 6 183) s m args below meth c H locs 0 0 Q (F0 m 36 ls [.int (mw lq)]) := by
    intro lq hlq H locs hw ls hl
    have hlq4 : lq ≤ 4 := by rw [hlq]; split <;> omega
    refine lv_istore (lv' := [(5, .int (mw lq)), (0, .ref z), (1, .ref h), (2, .int (mw w)), (3, .int (nI b)), (4, .int (nI sm))]) hx hb dX0_tryFrom_36 hl (by decide) rfl (fun ls hl => ?_)
    have hr1 : ρ 4 - b = (ρ 4 - (b + 1)) + 1 := by omega
    refine lv_iconst (v := (mw 0)) hx hb dX0_tryFrom_38 (by decide) ?_
    refine lv_istore (lv' := [(6, .int (mw 0)), (5, .int (mw lq)), (0, .ref z), (1, .ref h), (2, .int (mw w)), (3, .int (nI b)), (4, .int (nI sm))]) hx hb dX0_tryFrom_39 hl (by decide) rfl (fun ls hl => ?_)
    have L41 : ∀ (fu : Nat) (d : Nat) (tk2 : Nat → Int32) (bt2 : Nat → Int32), (1 + lq - d < fu) → (d ≤ 1 + lq) → (∀ q, q < b → tk2 q = tk q) → (BT ρ bt2 (FC ρ w mq (ρ 4 - (b + 1)) b cc sv d)) → ∀ (H : Heap) (locs : List Loc), xW G A s.heap [asgW Y z lf tk2 bt2 (mw (FC ρ w mq (ρ 4 - (b + 1)) b cc sv d).1), aucW Y h ρ γ] H locs → ∀ (ls : Array Slot), lv_has ls 7 [(0, .ref z), (1, .ref h), (2, .int (mw w)), (3, .int (nI b)), (4, .int (nI sm)), (5, .int (mw lq)), (6, .int (mw d))] → W p l e (xRm 6 183) s m args below meth c H locs 0 0 Q (F0 m 41 ls []) := by
      intro fu
      induction fu with
      | zero => intro d tk2 bt2 hm; exact absurd hm (Nat.not_lt_zero _)
      | succ fu ih41 =>
        intro d tk2 bt2 hm hd htk2 hbt2 H locs hw ls hl
        have hgd2 : goodS ρ w (ρ 4) (FC ρ w mq (ρ 4 - (b + 1)) b cc sv d) := by have := good_FC (m := mq) (c := cc) (b := b) (r := ρ 4 - (b + 1)) (s := sv) (d := d) (w := w) hI (by omega) (by rw [show b + (ρ 4 - (b + 1) + 1) = ρ 4 by omega]; exact hgd); rw [show b + (ρ 4 - (b + 1) + 1) = ρ 4 by omega] at this; exact this
        refine lv_iload hx hb dX0_tryFrom_41 (lv_at hl 6 rfl) ?_
        refine lv_iload hx hb dX0_tryFrom_43 (lv_at hl 5 rfl) ?_
        refine lv_icmp_gt (tgt := 65) hx hb dX0_tryFrom_45 (by decide) (fun c_4 => ?_) (fun c_4 => ?_)
        · have hdl : lq < d := (mw_lt (by omega) (by omega)).mp c_4
          have hE : FC ρ w mq (ρ 4 - (b + 1)) b cc sv d = FB ρ w mq (ρ 4 - b) b cc sv := by rw [hr1]; exact FC_end (by omega) (fun q h1 h2 => fea_chO h2 (by by_cases hz : w = b + 1; (rw [if_pos hz] at hlq; exact Or.inr ⟨hz, by omega⟩); (rw [if_neg hz] at hlq; exact Or.inl (by omega))))
          exact hret _ _ _ _ _ dX0_tryFrom_65 hw rfl ⟨tk2, bt2, htk2, by rw [← hE]; exact hbt2, by rw [← hE]⟩
        have hdl : d ≤ lq := by have := mt (mw_lt (a := lq) (b := d) (by omega) (by omega)).mpr (by first | exact c_4 | (rw [Int32.not_lt]; exact Int32.not_lt.mp c_4)); omega
        have hdp : d ≤ ρ (22 + 21 * b) + 1 ∧ (w = b + 1 → d = 0) := by by_cases hz : w = b + 1; (rw [if_pos hz] at hlq; exact ⟨by omega, fun _ => by omega⟩); (rw [if_neg hz] at hlq; exact ⟨by omega, fun z => absurd z hz⟩)
        refine lv_aload_n hx hb dX0_tryFrom_48 rfl (lv_at hl 0 rfl) ?_
        refine lv_aload_n hx hb dX0_tryFrom_49 rfl (lv_at hl 1 rfl) ?_
        refine lv_iload_n hx hb dX0_tryFrom_50 rfl (lv_at hl 2 rfl) ?_
        refine lv_iload_n hx hb dX0_tryFrom_51 rfl (lv_at hl 3 rfl) ?_
        refine lv_iload hx hb dX0_tryFrom_52 (lv_at hl 6 rfl) ?_
        refine lv_iload hx hb dX0_tryFrom_54 (lv_at hl 4 rfl) ?_
        refine x_cVV (As := [.ref h, .int (mw w), .int (nI b), .int (mw d), .int (nI sm)]) (k_X0_tryWith_1 l G Y z h lf tk2 bt2 ρ γ w mq b cc sm (FC ρ w mq (ρ 4 - (b + 1)) b cc sv d) d (hI) (hw6) (hfe) (hlf) (fun q hq => (htk2 q hq).trans (htk q hq)) (hbt2) (hgd2) (hsm) (by omega) (by omega) (by omega) (hdp)) cw_X0_44 [0, 1] 0 0 M hK hZ hw hl.1 rfl (by decide) rfl rfl rfl ⟨by decide, by decide⟩ ⟨Nat.zero_le _, Nat.zero_le _⟩ rfl rfl (Nat.le_of_ble_eq_true rfl) dX0_tryFrom_56 (fun sg h_5 H locs hw => ?_)
        obtain ⟨tka6, bta7, hta8, htb9, rfl⟩ := h_5
        have hw : xW G A s.heap [asgW Y z lf tka6 bta7 (mw (FB ρ w mq (ρ 4 - (b + 1)) (b + 1) (5 * cc + d) (FC ρ w mq (ρ 4 - (b + 1)) b cc sv d)).1), aucW Y h ρ γ] H locs := hw
        rw [← FC_1] at hw
        refine lv_iinc (v := ((mw d) + Int32.ofInt (1))) (lv' := [(6, .int ((mw d) + Int32.ofInt (1))), (0, .ref z), (1, .ref h), (2, .int (mw w)), (3, .int (nI b)), (4, .int (nI sm)), (5, .int (mw lq))]) hx hb dX0_tryFrom_59 hl (k := 6) rfl rfl (by decide) rfl (fun ls hl => ?_)
        rw [mw_inc] at hl
        refine lv_goto (tgt := 41) hx hb dX0_tryFrom_62 (by decide) ?_
        exact ih41 (1 + d) tka6 bta7 (by omega) (by omega) (fun q hq => (hta8 q hq).trans (htk2 q hq)) (by rw [FC_1]; exact htb9) _ _ hw _ (lv_sub hl [1, 2, 3, 4, 5, 6, 0] rfl)
    exact L41 (1 + lq - 0 + 1) 0 tk bt (Nat.lt_succ_self _) (by omega) (fun _ _ => rfl) (hbt) _ _ hw _ (lv_sub hl [2, 3, 4, 5, 6, 1, 0] rfl)
  refine lv_iload_n hx hb dX0_tryFrom_21 rfl (lv_at hl 3 rfl) ?_
  refine lv_iload_n hx hb dX0_tryFrom_22 rfl (lv_at hl 2 rfl) ?_
  refine lv_icmp_ne (tgt := 30) hx hb dX0_tryFrom_23 (by decide) (fun c_10 => ?_) (fun c_10 => ?_)
  · have w1_11 : ¬ w = b + 1 := fun z => c_10 ((nI_mw (by omega) (by omega)).mpr z)
    refine lv_aload_n hx hb dX0_tryFrom_30 rfl (lv_at hl 1 rfl) ?_
    refine x_get M hK hw 1 0 rfl rfl ff_X0_41 rfl dX0_tryFrom_31 ?_
    refine lv_iload_n hx hb dX0_tryFrom_34 rfl (lv_at hl 3 rfl) ?_
    refine x_iald M hK hw 1 6 rfl rfl (by omega) (by decide) dX0_tryFrom_35 ?_
    refine x_topN (n := ρ (22 + 21 * b)) (congrArg nI (pck_at (j := b) (by omega) rfl (by omega))) ?_
    have q_12 : ρ (22 + 21 * b) ≤ 3 := hI.pck (j := b) (by omega) (by omega)
    refine x_topI (y := mw (1 + (ρ (22 + 21 * b)))) mwN_1.symm ?_
    exact L36 (1 + (ρ (22 + 21 * b))) (by first | exact (if_pos w1_11).symm | exact (Nat.add_comm _ _).trans (if_neg w1_11).symm) _ _ hw _ (lv_sub hl [0, 1, 2, 3, 4] rfl)
  have w1_13 : w = b + 1 := (nI_mw (by omega) (by omega)).mp c_10
  refine lv_iconst (v := (mw 0)) hx hb dX0_tryFrom_26 (by decide) ?_
  refine lv_goto (tgt := 36) hx hb dX0_tryFrom_27 (by decide) ?_
  exact L36 0 (by first | exact (if_pos w1_13).symm | exact (Nat.add_comm _ _).trans (if_neg w1_13).symm) _ _ hw _ (lv_sub hl [0, 1, 2, 3, 4] rfl)
set_option maxHeartbeats 4000000 in
set_option maxRecDepth 20000 in
theorem k_X0_tryWith_2 (l : Launch) (G : va_G) (Y : Nat → Nat) (z h : Nat) (lf : Nat → Nat) (tk bt : Nat → Int32) (ρ : Nat → Nat) (γ : Nat → Nat → Nat) (w mq b cc sm : Nat) (sv : Nat × Nat) (d : Nat) (hI : Inv ρ) (hw6 : w ≤ 6) (hfe : feaP ρ w mq b cc) (hlf : lfOk ρ mq b cc lf) (htk : ∀ q, q < b → tk q = mw (dP b cc q)) (hbt : BT ρ bt sv) (hgd : goodS ρ w (ρ 4) sv) (hsm : sm = wP ρ b cc) (hbn : b < ρ 4) (hbq : ρ 4 ≤ b + 1 + 2) (hd5 : d < 5) (hdp : d ≤ ρ (22 + 21 * b) + 1 ∧ (w = b + 1 → d = 0)) : CtV l yX0_tryWith cX0_tryWith 6 7 209 [.ref z, .ref h, .int (mw w), .int (nI b), .int (mw d), .int (nI sm)] [asgW Y z lf tk bt (mw sv.1), aucW Y h ρ γ] (fun sg => ∃ (tk' bt' : Nat → Int32), (∀ q, q < b → tk' q = tk q) ∧ BT ρ bt' (FB ρ w mq (ρ 4 - (b + 1)) (b + 1) (5 * cc + d) sv) ∧ sg = [asgW Y z lf tk' bt' (mw (FB ρ w mq (ρ 4 - (b + 1)) (b + 1) (5 * cc + d) sv).1), aucW Y h ρ γ]) G Y := by
  refine x_ofV (by decide) (Nat.le_of_ble_eq_true rfl) (fun p e s m args below meth c A ls Q M hK hZ hw hl hret => ?_)
  obtain ⟨hx, hb, -⟩ := id M
  have hl : lv_has ls 6 [(0, .ref z), (1, .ref h), (2, .int (mw w)), (3, .int (nI b)), (4, .int (mw d)), (5, .int (nI sm))] := hl
  have hpk := hI.pck (j := b) (by omega) rfl
  obtain ⟨hdp1, hdp2⟩ := id hdp
  have hsb := wP_le hI (Nat.le_of_lt hbn) hfe.1
  have := hI.n6
  have := hI.over
  have := hI.keep
  have := hI.stepp
  refine lv_aload_n hx hb dX0_tryWith_0 rfl (lv_at hl 0 rfl) ?_
  refine x_get M hK hw 0 0 rfl rfl ff_X0_15 rfl dX0_tryWith_1 ?_
  refine lv_iload_n hx hb dX0_tryWith_4 rfl (lv_at hl 3 rfl) ?_
  refine lv_iload hx hb dX0_tryWith_5 (lv_at hl 4 rfl) ?_
  refine x_iast M hK hw 0 2 rfl rfl (by omega) (by decide) dX0_tryWith_7 (fun H locs hw => ?_)
  have hw : xW G A s.heap [asgW Y z lf (upd tk b (mw d)) bt (mw sv.1), aucW Y h ρ γ] H locs := hw
  refine lv_iload hx hb dX0_tryWith_8 (lv_at hl 4 rfl) ?_
  refine lv_iconst (v := (mw 0)) hx hb dX0_tryWith_10 (by decide) ?_
  refine lv_icmp_ne (tgt := 28) hx hb dX0_tryWith_11 (by decide) (fun c_1 => ?_) (fun c_1 => ?_)
  · have hd0 : 0 < d := Nat.pos_of_ne_zero (fun z => c_1 (by rw [z]))
    rw [mw_p hd0] at hl
    refine lv_aload_n hx hb dX0_tryWith_28 rfl (lv_at hl 0 rfl) ?_
    refine lv_aload_n hx hb dX0_tryWith_29 rfl (lv_at hl 1 rfl) ?_
    refine lv_iload_n hx hb dX0_tryWith_30 rfl (lv_at hl 3 rfl) ?_
    refine lv_iload hx hb dX0_tryWith_31 (lv_at hl 4 rfl) ?_
    refine x_cVI (As := [.ref h, .int (nI b), .int (nI (d - 1))]) (k_X0_fits l G Y z h lf (upd tk b (mw d)) bt (mw sv.1) ρ γ b (d - 1) (hI) (by omega) (by omega) (fun k hk => lf_le hI hlf hk)) cw_X0_48 [0, 1] 0 0 M hK hZ hw hl.1 rfl (by decide) rfl rfl rfl ⟨by decide, by decide⟩ ⟨Nat.zero_le _, Nat.zero_le _⟩ rfl rfl (Nat.le_of_ble_eq_true rfl) dX0_tryWith_33 (fun r sg h_2 H locs hw => ?_)
    obtain ⟨rfl, rfl⟩ := h_2
    have hw : xW G A s.heap [asgW Y z lf (upd tk b (mw d)) bt (mw sv.1), aucW Y h ρ γ] H locs := hw
    refine x_beq M (tgt := 76) dX0_tryWith_36 (by decide) (fun c_3 => ?_) (fun c_3 => ?_)
    · have hE : FB ρ w mq (ρ 4 - (b + 1)) (b + 1) (5 * cc + d) sv = sv := FB_skip (fea_chN hd5 (fit_not hlf hd0 (of_decide_eq_false c_3)))
      exact hret _ _ _ _ _ dX0_tryWith_76 hw rfl ⟨_, bt, tk_upd, by rw [hE]; exact hbt, by rw [hE]⟩
    have hfit : fitA lf ρ b (d - 1) := of_decide_eq_true c_3
    have hf1 : feaP ρ w mq (b + 1) (5 * cc + d) := fea_ch hd5 hfe hdp.1 hdp.2 (fit_all hlf hd0 hfit)
    refine lv_aload_n hx hb dX0_tryWith_39 rfl (lv_at hl 0 rfl) ?_
    refine lv_aload_n hx hb dX0_tryWith_40 rfl (lv_at hl 1 rfl) ?_
    refine lv_iload_n hx hb dX0_tryWith_41 rfl (lv_at hl 3 rfl) ?_
    refine lv_iload hx hb dX0_tryWith_42 (lv_at hl 4 rfl) ?_
    refine lv_iconst (v := (nI 1)) hx hb dX0_tryWith_44 (by decide) ?_
    refine x_cVV (As := [.ref h, .int (nI b), .int (nI (d - 1)), .int (nI 1)]) (k_X0_take_t l G Y z h lf (upd tk b (mw d)) bt (mw sv.1) ρ γ b (d - 1) (hI) (by omega) (by omega) (fun k hk => lf_le hI hlf hk) (hfit)) cw_X0_52 [0, 1] 0 0 M hK hZ hw hl.1 rfl (by decide) rfl rfl rfl ⟨by decide, by decide⟩ ⟨Nat.zero_le _, Nat.zero_le _⟩ rfl rfl (Nat.le_of_ble_eq_true rfl) dX0_tryWith_45 (fun sg h_4 H locs hw => ?_)
    obtain rfl := h_4
    have hw : xW G A s.heap [asgW Y z (tkM lf ρ b (d - 1)) (upd tk b (mw d)) bt (mw sv.1), aucW Y h ρ γ] H locs := hw
    refine lv_aload_n hx hb dX0_tryWith_48 rfl (lv_at hl 0 rfl) ?_
    refine lv_aload_n hx hb dX0_tryWith_49 rfl (lv_at hl 1 rfl) ?_
    refine lv_iload_n hx hb dX0_tryWith_50 rfl (lv_at hl 2 rfl) ?_
    refine lv_iload_n hx hb dX0_tryWith_51 rfl (lv_at hl 3 rfl) ?_
    refine lv_iconst (v := (nI 1)) hx hb dX0_tryWith_52 (by decide) ?_
    refine x_iadd M (n := 1 + b) dX0_tryWith_53 (by omega) ?_
    refine x_topN (n := (b + 1)) (congrArg nI (by omega)) ?_
    refine lv_iload hx hb dX0_tryWith_54 (lv_at hl 5 rfl) ?_
    refine lv_aload_n hx hb dX0_tryWith_56 rfl (lv_at hl 1 rfl) ?_
    refine lv_iload_n hx hb dX0_tryWith_57 rfl (lv_at hl 3 rfl) ?_
    refine lv_iload hx hb dX0_tryWith_58 (lv_at hl 4 rfl) ?_
    refine x_cVI (As := [.int (nI b), .int (nI (d - 1))]) (k_X1_packValue l G Y h b (d - 1) ρ γ (hI) (by omega) (by omega)) cw_X0_55 [1] 1 0 M hK hZ hw hl.1 rfl (by decide) rfl rfl rfl ⟨by decide, by decide⟩ ⟨Nat.zero_le _, Nat.zero_le _⟩ rfl rfl (Nat.le_of_ble_eq_true rfl) dX0_tryWith_60 (fun r sg h_5 H locs hw => ?_)
    obtain ⟨rfl, rfl⟩ := h_5
    have hw : xW G A s.heap [asgW Y z (tkM lf ρ b (d - 1)) (upd tk b (mw d)) bt (mw sv.1), aucW Y h ρ γ] H locs := hw
    have q_6 : worOf ρ b (d - 1) ≤ 2699973 := worOf_le hI (by omega) (by omega)
    refine x_iadd M (n := sm + worOf ρ b (d - 1)) dX0_tryWith_63 rfl ?_
    refine x_cVV (As := [.ref h, .int (mw w), .int (nI (b + 1)), .int (nI (sm + worOf ρ b (d - 1)))]) (k_X0_tryFrom_2 l G Y z h (tkM lf ρ b (d - 1)) (upd tk b (mw d)) bt ρ γ w mq (b + 1) (5 * cc + d) (sm + worOf ρ b (d - 1)) sv (hI) (hw6) (hf1) (lf_take hlf hd0 hd5) (tk_set htk hd5) (hbt) (hgd) (by rw [wP_ch hd5, ← hsm]; unfold wOf; rw [if_neg (by omega)]) (by omega) (by omega)) cw_X0_30 [0, 1] 0 0 M hK hZ hw hl.1 rfl (by decide) rfl rfl rfl ⟨by decide, by decide⟩ ⟨Nat.zero_le _, Nat.zero_le _⟩ rfl rfl (Nat.le_of_ble_eq_true rfl) dX0_tryWith_64 (fun sg h_7 H locs hw => ?_)
    obtain ⟨tka8, bta9, hta10, htb11, rfl⟩ := h_7
    have hw : xW G A s.heap [asgW Y z (tkM lf ρ b (d - 1)) tka8 bta9 (mw (FB ρ w mq (ρ 4 - (b + 1)) (b + 1) (5 * cc + d) sv).1), aucW Y h ρ γ] H locs := hw
    refine lv_aload_n hx hb dX0_tryWith_67 rfl (lv_at hl 0 rfl) ?_
    refine lv_aload_n hx hb dX0_tryWith_68 rfl (lv_at hl 1 rfl) ?_
    refine lv_iload_n hx hb dX0_tryWith_69 rfl (lv_at hl 3 rfl) ?_
    refine lv_iload hx hb dX0_tryWith_70 (lv_at hl 4 rfl) ?_
    refine lv_iconst (v := (-1)) hx hb dX0_tryWith_72 (by decide) ?_
    refine x_cVV (As := [.ref h, .int (nI b), .int (nI (d - 1)), .int (-1)]) (k_X0_take_g l G Y z h (tkM lf ρ b (d - 1)) tka8 bta9 (mw (FB ρ w mq (ρ 4 - (b + 1)) (b + 1) (5 * cc + d) sv).1) ρ γ b (d - 1) (hI) (by omega) (by omega) (fun k hk => lf_le hI (lf_take hlf hd0 hd5) hk)) cw_X0_52 [0, 1] 0 0 M hK hZ hw hl.1 rfl (by decide) rfl rfl rfl ⟨by decide, by decide⟩ ⟨Nat.zero_le _, Nat.zero_le _⟩ rfl rfl (Nat.le_of_ble_eq_true rfl) dX0_tryWith_73 (fun sg h_12 H locs hw => ?_)
    obtain rfl := h_12
    have hw : xW G A s.heap [asgW Y z (tkP (tkM lf ρ b (d - 1)) ρ b (d - 1)) tka8 bta9 (mw (FB ρ w mq (ρ 4 - (b + 1)) (b + 1) (5 * cc + d) sv).1), aucW Y h ρ γ] H locs := hw
    rw [tk_back hfit] at hw
    have hw : xW G A s.heap [asgW Y z lf tka8 bta9 (mw (FB ρ w mq (ρ 4 - (b + 1)) (b + 1) (5 * cc + d) sv).1), aucW Y h ρ γ] H locs := hw
    exact hret _ _ _ _ _ dX0_tryWith_76 hw rfl ⟨tka8, bta9, tk_low hta10, htb11, rfl⟩
  obtain rfl : d = 0 := mw_inj (by omega) (by decide) c_1
  have hf1 : feaP ρ w mq (b + 1) (5 * cc + 0) := fea_ch (by decide) hfe (Nat.zero_le _) (fun _ => rfl) (fun k hk => Nat.zero_le _)
  have hw : xW G A s.heap [asgW Y z lf (upd tk b (mw 0)) bt (mw sv.1), aucW Y h ρ γ] H locs := hw
  refine lv_aload_n hx hb dX0_tryWith_14 rfl (lv_at hl 0 rfl) ?_
  refine lv_aload_n hx hb dX0_tryWith_15 rfl (lv_at hl 1 rfl) ?_
  refine lv_iload_n hx hb dX0_tryWith_16 rfl (lv_at hl 2 rfl) ?_
  refine lv_iload_n hx hb dX0_tryWith_17 rfl (lv_at hl 3 rfl) ?_
  refine lv_iconst (v := (nI 1)) hx hb dX0_tryWith_18 (by decide) ?_
  refine x_iadd M (n := 1 + b) dX0_tryWith_19 (by omega) ?_
  refine x_topN (n := (b + 1)) (congrArg nI (by omega)) ?_
  refine lv_iload hx hb dX0_tryWith_20 (lv_at hl 5 rfl) ?_
  refine x_cVV (As := [.ref h, .int (mw w), .int (nI (b + 1)), .int (nI sm)]) (k_X0_tryFrom_2 l G Y z h lf (upd tk b (mw 0)) bt ρ γ w mq (b + 1) (5 * cc + 0) sm sv (hI) (hw6) (hf1) (lf_none hlf) (tk_set htk (by decide)) (hbt) (hgd) (by rw [wP_ch (by decide)]; exact hsm) (by omega) (by omega)) cw_X0_30 [0, 1] 0 0 M hK hZ hw hl.1 rfl (by decide) rfl rfl rfl ⟨by decide, by decide⟩ ⟨Nat.zero_le _, Nat.zero_le _⟩ rfl rfl (Nat.le_of_ble_eq_true rfl) dX0_tryWith_22 (fun sg h_13 H locs hw => ?_)
  obtain ⟨tka14, bta15, hta16, htb17, rfl⟩ := h_13
  have hw : xW G A s.heap [asgW Y z lf tka14 bta15 (mw (FB ρ w mq (ρ 4 - (b + 1)) (b + 1) (5 * cc + 0) sv).1), aucW Y h ρ γ] H locs := hw
  refine lv_goto (tgt := 76) hx hb dX0_tryWith_25 (by decide) ?_
  exact hret _ _ _ _ _ dX0_tryWith_76 hw rfl ⟨tka14, bta15, tk_low hta16, htb17, rfl⟩
set_option maxHeartbeats 4000000 in
set_option maxRecDepth 20000 in
theorem k_X0_tryFrom_3 (l : Launch) (G : va_G) (Y : Nat → Nat) (z h : Nat) (lf : Nat → Nat) (tk bt : Nat → Int32) (ρ : Nat → Nat) (γ : Nat → Nat → Nat) (w mq b cc sm : Nat) (sv : Nat × Nat) (hI : Inv ρ) (hw6 : w ≤ 6) (hfe : feaP ρ w mq b cc) (hlf : lfOk ρ mq b cc lf) (htk : ∀ q, q < b → tk q = mw (dP b cc q)) (hbt : BT ρ bt sv) (hgd : goodS ρ w (ρ 4) sv) (hsm : sm = wP ρ b cc) (hbn : b ≤ ρ 4) (hbq : ρ 4 ≤ b + 3) : CtV l yX0_tryFrom cX0_tryFrom 7 8 234 [.ref z, .ref h, .int (mw w), .int (nI b), .int (nI sm)] [asgW Y z lf tk bt (mw sv.1), aucW Y h ρ γ] (fun sg => ∃ (tk' bt' : Nat → Int32), (∀ q, q < b → tk' q = tk q) ∧ BT ρ bt' (FB ρ w mq (ρ 4 - b) b cc sv) ∧ sg = [asgW Y z lf tk' bt' (mw (FB ρ w mq (ρ 4 - b) b cc sv).1), aucW Y h ρ γ]) G Y := by
  refine x_ofV (by decide) (Nat.le_of_ble_eq_true rfl) (fun p e s m args below meth c A ls Q M hK hZ hw hl hret => ?_)
  obtain ⟨hx, hb, -⟩ := id M
  have hl : lv_has ls 7 [(0, .ref z), (1, .ref h), (2, .int (mw w)), (3, .int (nI b)), (4, .int (nI sm))] := hl
  have := hI.n6
  have := hI.over
  have := hI.keep
  have := hI.stepp
  have hsb := wP_le hI hbn hfe.1
  refine lv_iload_n hx hb dX0_tryFrom_0 rfl (lv_at hl 3 rfl) ?_
  refine lv_aload_n hx hb dX0_tryFrom_1 rfl (lv_at hl 1 rfl) ?_
  refine x_get M hK hw 1 0 rfl rfl ff_X0_34 rfl dX0_tryFrom_2 ?_
  refine x_cge M (tgt := 14) (by omega) (by omega) dX0_tryFrom_5 (by decide) (fun c_1 => ?_) (fun c_1 => ?_)
  · refine lv_aload_n hx hb dX0_tryFrom_14 rfl (lv_at hl 0 rfl) ?_
    refine lv_iload hx hb dX0_tryFrom_15 (lv_at hl 4 rfl) ?_
    refine x_cVV (As := [.int (nI sm)]) (k_X0_keepIfBetter l G Y z lf tk bt sv.1 sm (by subst hsm; have := wP_le hI hbn hfe.1; omega) (by have := hgd.1; omega)) cw_X0_37 [0] 0 0 M hK hZ hw hl.1 rfl (by decide) rfl rfl rfl ⟨by decide, by decide⟩ ⟨Nat.zero_le _, Nat.zero_le _⟩ rfl rfl (Nat.le_of_ble_eq_true rfl) dX0_tryFrom_17 (fun sg h_2 H locs hw => ?_)
    obtain rfl := h_2
    have hw : xW G A s.heap [asgW Y z lf tk (if sv.1 ≤ sm then va_cpy tk bt 0 0 6 else bt) (mw (if sv.1 ≤ sm then sm + 1 else sv.1)), aucW Y h ρ γ] H locs := hw
    subst hsm
    have hz0 : ρ 4 - b = 0 := by omega
    rw [keep_bw hfe] at hw
    exact hret _ _ _ _ _ dX0_tryFrom_20 hw rfl ⟨tk, _, fun _ _ => rfl, by rw [hz0]; exact keep_bt hI (by omega) hfe htk hbt, by rw [hz0]⟩
  refine lv_iload_n hx hb dX0_tryFrom_8 rfl (lv_at hl 3 rfl) ?_
  refine lv_bipush (v := (nI 6)) hx hb dX0_tryFrom_9 (by decide) ?_
  refine x_clt M (tgt := 21) (by omega) (by decide) dX0_tryFrom_11 (by decide) (fun c_3 => ?_) (fun c_3 => absurd c_3 (by omega))
  have hpk := hI.pck (j := b) (by omega) rfl
  have L36 : ∀ (lq : Nat), (lq = if w = b + 1 then 0 else ρ (22 + 21 * b) + 1) → ∀ (H : Heap) (locs : List Loc), xW G A s.heap [asgW Y z lf tk bt (mw sv.1), aucW Y h ρ γ] H locs → ∀ (ls : Array Slot), lv_has ls 7 [(0, .ref z), (1, .ref h), (2, .int (mw w)), (3, .int (nI b)), (4, .int (nI sm))] → W p l e (xRm 8 234) s m args below meth c H locs 0 0 Q (F0 m 36 ls [.int (mw lq)]) := by
    intro lq hlq H locs hw ls hl
    have hlq4 : lq ≤ 4 := by rw [hlq]; split <;> omega
    refine lv_istore (lv' := [(5, .int (mw lq)), (0, .ref z), (1, .ref h), (2, .int (mw w)), (3, .int (nI b)), (4, .int (nI sm))]) hx hb dX0_tryFrom_36 hl (by decide) rfl (fun ls hl => ?_)
    have hr1 : ρ 4 - b = (ρ 4 - (b + 1)) + 1 := by omega
    refine lv_iconst (v := (mw 0)) hx hb dX0_tryFrom_38 (by decide) ?_
    refine lv_istore (lv' := [(6, .int (mw 0)), (5, .int (mw lq)), (0, .ref z), (1, .ref h), (2, .int (mw w)), (3, .int (nI b)), (4, .int (nI sm))]) hx hb dX0_tryFrom_39 hl (by decide) rfl (fun ls hl => ?_)
    have L41 : ∀ (fu : Nat) (d : Nat) (tk2 : Nat → Int32) (bt2 : Nat → Int32), (1 + lq - d < fu) → (d ≤ 1 + lq) → (∀ q, q < b → tk2 q = tk q) → (BT ρ bt2 (FC ρ w mq (ρ 4 - (b + 1)) b cc sv d)) → ∀ (H : Heap) (locs : List Loc), xW G A s.heap [asgW Y z lf tk2 bt2 (mw (FC ρ w mq (ρ 4 - (b + 1)) b cc sv d).1), aucW Y h ρ γ] H locs → ∀ (ls : Array Slot), lv_has ls 7 [(0, .ref z), (1, .ref h), (2, .int (mw w)), (3, .int (nI b)), (4, .int (nI sm)), (5, .int (mw lq)), (6, .int (mw d))] → W p l e (xRm 8 234) s m args below meth c H locs 0 0 Q (F0 m 41 ls []) := by
      intro fu
      induction fu with
      | zero => intro d tk2 bt2 hm; exact absurd hm (Nat.not_lt_zero _)
      | succ fu ih41 =>
        intro d tk2 bt2 hm hd htk2 hbt2 H locs hw ls hl
        have hgd2 : goodS ρ w (ρ 4) (FC ρ w mq (ρ 4 - (b + 1)) b cc sv d) := by have := good_FC (m := mq) (c := cc) (b := b) (r := ρ 4 - (b + 1)) (s := sv) (d := d) (w := w) hI (by omega) (by rw [show b + (ρ 4 - (b + 1) + 1) = ρ 4 by omega]; exact hgd); rw [show b + (ρ 4 - (b + 1) + 1) = ρ 4 by omega] at this; exact this
        refine lv_iload hx hb dX0_tryFrom_41 (lv_at hl 6 rfl) ?_
        refine lv_iload hx hb dX0_tryFrom_43 (lv_at hl 5 rfl) ?_
        refine lv_icmp_gt (tgt := 65) hx hb dX0_tryFrom_45 (by decide) (fun c_4 => ?_) (fun c_4 => ?_)
        · have hdl : lq < d := (mw_lt (by omega) (by omega)).mp c_4
          have hE : FC ρ w mq (ρ 4 - (b + 1)) b cc sv d = FB ρ w mq (ρ 4 - b) b cc sv := by rw [hr1]; exact FC_end (by omega) (fun q h1 h2 => fea_chO h2 (by by_cases hz : w = b + 1; (rw [if_pos hz] at hlq; exact Or.inr ⟨hz, by omega⟩); (rw [if_neg hz] at hlq; exact Or.inl (by omega))))
          exact hret _ _ _ _ _ dX0_tryFrom_65 hw rfl ⟨tk2, bt2, htk2, by rw [← hE]; exact hbt2, by rw [← hE]⟩
        have hdl : d ≤ lq := by have := mt (mw_lt (a := lq) (b := d) (by omega) (by omega)).mpr (by first | exact c_4 | (rw [Int32.not_lt]; exact Int32.not_lt.mp c_4)); omega
        have hdp : d ≤ ρ (22 + 21 * b) + 1 ∧ (w = b + 1 → d = 0) := by by_cases hz : w = b + 1; (rw [if_pos hz] at hlq; exact ⟨by omega, fun _ => by omega⟩); (rw [if_neg hz] at hlq; exact ⟨by omega, fun z => absurd z hz⟩)
        refine lv_aload_n hx hb dX0_tryFrom_48 rfl (lv_at hl 0 rfl) ?_
        refine lv_aload_n hx hb dX0_tryFrom_49 rfl (lv_at hl 1 rfl) ?_
        refine lv_iload_n hx hb dX0_tryFrom_50 rfl (lv_at hl 2 rfl) ?_
        refine lv_iload_n hx hb dX0_tryFrom_51 rfl (lv_at hl 3 rfl) ?_
        refine lv_iload hx hb dX0_tryFrom_52 (lv_at hl 6 rfl) ?_
        refine lv_iload hx hb dX0_tryFrom_54 (lv_at hl 4 rfl) ?_
        refine x_cVV (As := [.ref h, .int (mw w), .int (nI b), .int (mw d), .int (nI sm)]) (k_X0_tryWith_2 l G Y z h lf tk2 bt2 ρ γ w mq b cc sm (FC ρ w mq (ρ 4 - (b + 1)) b cc sv d) d (hI) (hw6) (hfe) (hlf) (fun q hq => (htk2 q hq).trans (htk q hq)) (hbt2) (hgd2) (hsm) (by omega) (by omega) (by omega) (hdp)) cw_X0_44 [0, 1] 0 0 M hK hZ hw hl.1 rfl (by decide) rfl rfl rfl ⟨by decide, by decide⟩ ⟨Nat.zero_le _, Nat.zero_le _⟩ rfl rfl (Nat.le_of_ble_eq_true rfl) dX0_tryFrom_56 (fun sg h_5 H locs hw => ?_)
        obtain ⟨tka6, bta7, hta8, htb9, rfl⟩ := h_5
        have hw : xW G A s.heap [asgW Y z lf tka6 bta7 (mw (FB ρ w mq (ρ 4 - (b + 1)) (b + 1) (5 * cc + d) (FC ρ w mq (ρ 4 - (b + 1)) b cc sv d)).1), aucW Y h ρ γ] H locs := hw
        rw [← FC_1] at hw
        refine lv_iinc (v := ((mw d) + Int32.ofInt (1))) (lv' := [(6, .int ((mw d) + Int32.ofInt (1))), (0, .ref z), (1, .ref h), (2, .int (mw w)), (3, .int (nI b)), (4, .int (nI sm)), (5, .int (mw lq))]) hx hb dX0_tryFrom_59 hl (k := 6) rfl rfl (by decide) rfl (fun ls hl => ?_)
        rw [mw_inc] at hl
        refine lv_goto (tgt := 41) hx hb dX0_tryFrom_62 (by decide) ?_
        exact ih41 (1 + d) tka6 bta7 (by omega) (by omega) (fun q hq => (hta8 q hq).trans (htk2 q hq)) (by rw [FC_1]; exact htb9) _ _ hw _ (lv_sub hl [1, 2, 3, 4, 5, 6, 0] rfl)
    exact L41 (1 + lq - 0 + 1) 0 tk bt (Nat.lt_succ_self _) (by omega) (fun _ _ => rfl) (hbt) _ _ hw _ (lv_sub hl [2, 3, 4, 5, 6, 1, 0] rfl)
  refine lv_iload_n hx hb dX0_tryFrom_21 rfl (lv_at hl 3 rfl) ?_
  refine lv_iload_n hx hb dX0_tryFrom_22 rfl (lv_at hl 2 rfl) ?_
  refine lv_icmp_ne (tgt := 30) hx hb dX0_tryFrom_23 (by decide) (fun c_10 => ?_) (fun c_10 => ?_)
  · have w1_11 : ¬ w = b + 1 := fun z => c_10 ((nI_mw (by omega) (by omega)).mpr z)
    refine lv_aload_n hx hb dX0_tryFrom_30 rfl (lv_at hl 1 rfl) ?_
    refine x_get M hK hw 1 0 rfl rfl ff_X0_41 rfl dX0_tryFrom_31 ?_
    refine lv_iload_n hx hb dX0_tryFrom_34 rfl (lv_at hl 3 rfl) ?_
    refine x_iald M hK hw 1 6 rfl rfl (by omega) (by decide) dX0_tryFrom_35 ?_
    refine x_topN (n := ρ (22 + 21 * b)) (congrArg nI (pck_at (j := b) (by omega) rfl (by omega))) ?_
    have q_12 : ρ (22 + 21 * b) ≤ 3 := hI.pck (j := b) (by omega) (by omega)
    refine x_topI (y := mw (1 + (ρ (22 + 21 * b)))) mwN_1.symm ?_
    exact L36 (1 + (ρ (22 + 21 * b))) (by first | exact (if_pos w1_11).symm | exact (Nat.add_comm _ _).trans (if_neg w1_11).symm) _ _ hw _ (lv_sub hl [0, 1, 2, 3, 4] rfl)
  have w1_13 : w = b + 1 := (nI_mw (by omega) (by omega)).mp c_10
  refine lv_iconst (v := (mw 0)) hx hb dX0_tryFrom_26 (by decide) ?_
  refine lv_goto (tgt := 36) hx hb dX0_tryFrom_27 (by decide) ?_
  exact L36 0 (by first | exact (if_pos w1_13).symm | exact (Nat.add_comm _ _).trans (if_neg w1_13).symm) _ _ hw _ (lv_sub hl [0, 1, 2, 3, 4] rfl)
set_option maxHeartbeats 4000000 in
set_option maxRecDepth 20000 in
theorem k_X0_tryWith_3 (l : Launch) (G : va_G) (Y : Nat → Nat) (z h : Nat) (lf : Nat → Nat) (tk bt : Nat → Int32) (ρ : Nat → Nat) (γ : Nat → Nat → Nat) (w mq b cc sm : Nat) (sv : Nat × Nat) (d : Nat) (hI : Inv ρ) (hw6 : w ≤ 6) (hfe : feaP ρ w mq b cc) (hlf : lfOk ρ mq b cc lf) (htk : ∀ q, q < b → tk q = mw (dP b cc q)) (hbt : BT ρ bt sv) (hgd : goodS ρ w (ρ 4) sv) (hsm : sm = wP ρ b cc) (hbn : b < ρ 4) (hbq : ρ 4 ≤ b + 1 + 3) (hd5 : d < 5) (hdp : d ≤ ρ (22 + 21 * b) + 1 ∧ (w = b + 1 → d = 0)) : CtV l yX0_tryWith cX0_tryWith 6 9 260 [.ref z, .ref h, .int (mw w), .int (nI b), .int (mw d), .int (nI sm)] [asgW Y z lf tk bt (mw sv.1), aucW Y h ρ γ] (fun sg => ∃ (tk' bt' : Nat → Int32), (∀ q, q < b → tk' q = tk q) ∧ BT ρ bt' (FB ρ w mq (ρ 4 - (b + 1)) (b + 1) (5 * cc + d) sv) ∧ sg = [asgW Y z lf tk' bt' (mw (FB ρ w mq (ρ 4 - (b + 1)) (b + 1) (5 * cc + d) sv).1), aucW Y h ρ γ]) G Y := by
  refine x_ofV (by decide) (Nat.le_of_ble_eq_true rfl) (fun p e s m args below meth c A ls Q M hK hZ hw hl hret => ?_)
  obtain ⟨hx, hb, -⟩ := id M
  have hl : lv_has ls 6 [(0, .ref z), (1, .ref h), (2, .int (mw w)), (3, .int (nI b)), (4, .int (mw d)), (5, .int (nI sm))] := hl
  have hpk := hI.pck (j := b) (by omega) rfl
  obtain ⟨hdp1, hdp2⟩ := id hdp
  have hsb := wP_le hI (Nat.le_of_lt hbn) hfe.1
  have := hI.n6
  have := hI.over
  have := hI.keep
  have := hI.stepp
  refine lv_aload_n hx hb dX0_tryWith_0 rfl (lv_at hl 0 rfl) ?_
  refine x_get M hK hw 0 0 rfl rfl ff_X0_15 rfl dX0_tryWith_1 ?_
  refine lv_iload_n hx hb dX0_tryWith_4 rfl (lv_at hl 3 rfl) ?_
  refine lv_iload hx hb dX0_tryWith_5 (lv_at hl 4 rfl) ?_
  refine x_iast M hK hw 0 2 rfl rfl (by omega) (by decide) dX0_tryWith_7 (fun H locs hw => ?_)
  have hw : xW G A s.heap [asgW Y z lf (upd tk b (mw d)) bt (mw sv.1), aucW Y h ρ γ] H locs := hw
  refine lv_iload hx hb dX0_tryWith_8 (lv_at hl 4 rfl) ?_
  refine lv_iconst (v := (mw 0)) hx hb dX0_tryWith_10 (by decide) ?_
  refine lv_icmp_ne (tgt := 28) hx hb dX0_tryWith_11 (by decide) (fun c_1 => ?_) (fun c_1 => ?_)
  · have hd0 : 0 < d := Nat.pos_of_ne_zero (fun z => c_1 (by rw [z]))
    rw [mw_p hd0] at hl
    refine lv_aload_n hx hb dX0_tryWith_28 rfl (lv_at hl 0 rfl) ?_
    refine lv_aload_n hx hb dX0_tryWith_29 rfl (lv_at hl 1 rfl) ?_
    refine lv_iload_n hx hb dX0_tryWith_30 rfl (lv_at hl 3 rfl) ?_
    refine lv_iload hx hb dX0_tryWith_31 (lv_at hl 4 rfl) ?_
    refine x_cVI (As := [.ref h, .int (nI b), .int (nI (d - 1))]) (k_X0_fits l G Y z h lf (upd tk b (mw d)) bt (mw sv.1) ρ γ b (d - 1) (hI) (by omega) (by omega) (fun k hk => lf_le hI hlf hk)) cw_X0_48 [0, 1] 0 0 M hK hZ hw hl.1 rfl (by decide) rfl rfl rfl ⟨by decide, by decide⟩ ⟨Nat.zero_le _, Nat.zero_le _⟩ rfl rfl (Nat.le_of_ble_eq_true rfl) dX0_tryWith_33 (fun r sg h_2 H locs hw => ?_)
    obtain ⟨rfl, rfl⟩ := h_2
    have hw : xW G A s.heap [asgW Y z lf (upd tk b (mw d)) bt (mw sv.1), aucW Y h ρ γ] H locs := hw
    refine x_beq M (tgt := 76) dX0_tryWith_36 (by decide) (fun c_3 => ?_) (fun c_3 => ?_)
    · have hE : FB ρ w mq (ρ 4 - (b + 1)) (b + 1) (5 * cc + d) sv = sv := FB_skip (fea_chN hd5 (fit_not hlf hd0 (of_decide_eq_false c_3)))
      exact hret _ _ _ _ _ dX0_tryWith_76 hw rfl ⟨_, bt, tk_upd, by rw [hE]; exact hbt, by rw [hE]⟩
    have hfit : fitA lf ρ b (d - 1) := of_decide_eq_true c_3
    have hf1 : feaP ρ w mq (b + 1) (5 * cc + d) := fea_ch hd5 hfe hdp.1 hdp.2 (fit_all hlf hd0 hfit)
    refine lv_aload_n hx hb dX0_tryWith_39 rfl (lv_at hl 0 rfl) ?_
    refine lv_aload_n hx hb dX0_tryWith_40 rfl (lv_at hl 1 rfl) ?_
    refine lv_iload_n hx hb dX0_tryWith_41 rfl (lv_at hl 3 rfl) ?_
    refine lv_iload hx hb dX0_tryWith_42 (lv_at hl 4 rfl) ?_
    refine lv_iconst (v := (nI 1)) hx hb dX0_tryWith_44 (by decide) ?_
    refine x_cVV (As := [.ref h, .int (nI b), .int (nI (d - 1)), .int (nI 1)]) (k_X0_take_t l G Y z h lf (upd tk b (mw d)) bt (mw sv.1) ρ γ b (d - 1) (hI) (by omega) (by omega) (fun k hk => lf_le hI hlf hk) (hfit)) cw_X0_52 [0, 1] 0 0 M hK hZ hw hl.1 rfl (by decide) rfl rfl rfl ⟨by decide, by decide⟩ ⟨Nat.zero_le _, Nat.zero_le _⟩ rfl rfl (Nat.le_of_ble_eq_true rfl) dX0_tryWith_45 (fun sg h_4 H locs hw => ?_)
    obtain rfl := h_4
    have hw : xW G A s.heap [asgW Y z (tkM lf ρ b (d - 1)) (upd tk b (mw d)) bt (mw sv.1), aucW Y h ρ γ] H locs := hw
    refine lv_aload_n hx hb dX0_tryWith_48 rfl (lv_at hl 0 rfl) ?_
    refine lv_aload_n hx hb dX0_tryWith_49 rfl (lv_at hl 1 rfl) ?_
    refine lv_iload_n hx hb dX0_tryWith_50 rfl (lv_at hl 2 rfl) ?_
    refine lv_iload_n hx hb dX0_tryWith_51 rfl (lv_at hl 3 rfl) ?_
    refine lv_iconst (v := (nI 1)) hx hb dX0_tryWith_52 (by decide) ?_
    refine x_iadd M (n := 1 + b) dX0_tryWith_53 (by omega) ?_
    refine x_topN (n := (b + 1)) (congrArg nI (by omega)) ?_
    refine lv_iload hx hb dX0_tryWith_54 (lv_at hl 5 rfl) ?_
    refine lv_aload_n hx hb dX0_tryWith_56 rfl (lv_at hl 1 rfl) ?_
    refine lv_iload_n hx hb dX0_tryWith_57 rfl (lv_at hl 3 rfl) ?_
    refine lv_iload hx hb dX0_tryWith_58 (lv_at hl 4 rfl) ?_
    refine x_cVI (As := [.int (nI b), .int (nI (d - 1))]) (k_X1_packValue l G Y h b (d - 1) ρ γ (hI) (by omega) (by omega)) cw_X0_55 [1] 1 0 M hK hZ hw hl.1 rfl (by decide) rfl rfl rfl ⟨by decide, by decide⟩ ⟨Nat.zero_le _, Nat.zero_le _⟩ rfl rfl (Nat.le_of_ble_eq_true rfl) dX0_tryWith_60 (fun r sg h_5 H locs hw => ?_)
    obtain ⟨rfl, rfl⟩ := h_5
    have hw : xW G A s.heap [asgW Y z (tkM lf ρ b (d - 1)) (upd tk b (mw d)) bt (mw sv.1), aucW Y h ρ γ] H locs := hw
    have q_6 : worOf ρ b (d - 1) ≤ 2699973 := worOf_le hI (by omega) (by omega)
    refine x_iadd M (n := sm + worOf ρ b (d - 1)) dX0_tryWith_63 rfl ?_
    refine x_cVV (As := [.ref h, .int (mw w), .int (nI (b + 1)), .int (nI (sm + worOf ρ b (d - 1)))]) (k_X0_tryFrom_3 l G Y z h (tkM lf ρ b (d - 1)) (upd tk b (mw d)) bt ρ γ w mq (b + 1) (5 * cc + d) (sm + worOf ρ b (d - 1)) sv (hI) (hw6) (hf1) (lf_take hlf hd0 hd5) (tk_set htk hd5) (hbt) (hgd) (by rw [wP_ch hd5, ← hsm]; unfold wOf; rw [if_neg (by omega)]) (by omega) (by omega)) cw_X0_30 [0, 1] 0 0 M hK hZ hw hl.1 rfl (by decide) rfl rfl rfl ⟨by decide, by decide⟩ ⟨Nat.zero_le _, Nat.zero_le _⟩ rfl rfl (Nat.le_of_ble_eq_true rfl) dX0_tryWith_64 (fun sg h_7 H locs hw => ?_)
    obtain ⟨tka8, bta9, hta10, htb11, rfl⟩ := h_7
    have hw : xW G A s.heap [asgW Y z (tkM lf ρ b (d - 1)) tka8 bta9 (mw (FB ρ w mq (ρ 4 - (b + 1)) (b + 1) (5 * cc + d) sv).1), aucW Y h ρ γ] H locs := hw
    refine lv_aload_n hx hb dX0_tryWith_67 rfl (lv_at hl 0 rfl) ?_
    refine lv_aload_n hx hb dX0_tryWith_68 rfl (lv_at hl 1 rfl) ?_
    refine lv_iload_n hx hb dX0_tryWith_69 rfl (lv_at hl 3 rfl) ?_
    refine lv_iload hx hb dX0_tryWith_70 (lv_at hl 4 rfl) ?_
    refine lv_iconst (v := (-1)) hx hb dX0_tryWith_72 (by decide) ?_
    refine x_cVV (As := [.ref h, .int (nI b), .int (nI (d - 1)), .int (-1)]) (k_X0_take_g l G Y z h (tkM lf ρ b (d - 1)) tka8 bta9 (mw (FB ρ w mq (ρ 4 - (b + 1)) (b + 1) (5 * cc + d) sv).1) ρ γ b (d - 1) (hI) (by omega) (by omega) (fun k hk => lf_le hI (lf_take hlf hd0 hd5) hk)) cw_X0_52 [0, 1] 0 0 M hK hZ hw hl.1 rfl (by decide) rfl rfl rfl ⟨by decide, by decide⟩ ⟨Nat.zero_le _, Nat.zero_le _⟩ rfl rfl (Nat.le_of_ble_eq_true rfl) dX0_tryWith_73 (fun sg h_12 H locs hw => ?_)
    obtain rfl := h_12
    have hw : xW G A s.heap [asgW Y z (tkP (tkM lf ρ b (d - 1)) ρ b (d - 1)) tka8 bta9 (mw (FB ρ w mq (ρ 4 - (b + 1)) (b + 1) (5 * cc + d) sv).1), aucW Y h ρ γ] H locs := hw
    rw [tk_back hfit] at hw
    have hw : xW G A s.heap [asgW Y z lf tka8 bta9 (mw (FB ρ w mq (ρ 4 - (b + 1)) (b + 1) (5 * cc + d) sv).1), aucW Y h ρ γ] H locs := hw
    exact hret _ _ _ _ _ dX0_tryWith_76 hw rfl ⟨tka8, bta9, tk_low hta10, htb11, rfl⟩
  obtain rfl : d = 0 := mw_inj (by omega) (by decide) c_1
  have hf1 : feaP ρ w mq (b + 1) (5 * cc + 0) := fea_ch (by decide) hfe (Nat.zero_le _) (fun _ => rfl) (fun k hk => Nat.zero_le _)
  have hw : xW G A s.heap [asgW Y z lf (upd tk b (mw 0)) bt (mw sv.1), aucW Y h ρ γ] H locs := hw
  refine lv_aload_n hx hb dX0_tryWith_14 rfl (lv_at hl 0 rfl) ?_
  refine lv_aload_n hx hb dX0_tryWith_15 rfl (lv_at hl 1 rfl) ?_
  refine lv_iload_n hx hb dX0_tryWith_16 rfl (lv_at hl 2 rfl) ?_
  refine lv_iload_n hx hb dX0_tryWith_17 rfl (lv_at hl 3 rfl) ?_
  refine lv_iconst (v := (nI 1)) hx hb dX0_tryWith_18 (by decide) ?_
  refine x_iadd M (n := 1 + b) dX0_tryWith_19 (by omega) ?_
  refine x_topN (n := (b + 1)) (congrArg nI (by omega)) ?_
  refine lv_iload hx hb dX0_tryWith_20 (lv_at hl 5 rfl) ?_
  refine x_cVV (As := [.ref h, .int (mw w), .int (nI (b + 1)), .int (nI sm)]) (k_X0_tryFrom_3 l G Y z h lf (upd tk b (mw 0)) bt ρ γ w mq (b + 1) (5 * cc + 0) sm sv (hI) (hw6) (hf1) (lf_none hlf) (tk_set htk (by decide)) (hbt) (hgd) (by rw [wP_ch (by decide)]; exact hsm) (by omega) (by omega)) cw_X0_30 [0, 1] 0 0 M hK hZ hw hl.1 rfl (by decide) rfl rfl rfl ⟨by decide, by decide⟩ ⟨Nat.zero_le _, Nat.zero_le _⟩ rfl rfl (Nat.le_of_ble_eq_true rfl) dX0_tryWith_22 (fun sg h_13 H locs hw => ?_)
  obtain ⟨tka14, bta15, hta16, htb17, rfl⟩ := h_13
  have hw : xW G A s.heap [asgW Y z lf tka14 bta15 (mw (FB ρ w mq (ρ 4 - (b + 1)) (b + 1) (5 * cc + 0) sv).1), aucW Y h ρ γ] H locs := hw
  refine lv_goto (tgt := 76) hx hb dX0_tryWith_25 (by decide) ?_
  exact hret _ _ _ _ _ dX0_tryWith_76 hw rfl ⟨tka14, bta15, tk_low hta16, htb17, rfl⟩
set_option maxHeartbeats 4000000 in
set_option maxRecDepth 20000 in
theorem k_X0_tryFrom_4 (l : Launch) (G : va_G) (Y : Nat → Nat) (z h : Nat) (lf : Nat → Nat) (tk bt : Nat → Int32) (ρ : Nat → Nat) (γ : Nat → Nat → Nat) (w mq b cc sm : Nat) (sv : Nat × Nat) (hI : Inv ρ) (hw6 : w ≤ 6) (hfe : feaP ρ w mq b cc) (hlf : lfOk ρ mq b cc lf) (htk : ∀ q, q < b → tk q = mw (dP b cc q)) (hbt : BT ρ bt sv) (hgd : goodS ρ w (ρ 4) sv) (hsm : sm = wP ρ b cc) (hbn : b ≤ ρ 4) (hbq : ρ 4 ≤ b + 4) : CtV l yX0_tryFrom cX0_tryFrom 7 10 285 [.ref z, .ref h, .int (mw w), .int (nI b), .int (nI sm)] [asgW Y z lf tk bt (mw sv.1), aucW Y h ρ γ] (fun sg => ∃ (tk' bt' : Nat → Int32), (∀ q, q < b → tk' q = tk q) ∧ BT ρ bt' (FB ρ w mq (ρ 4 - b) b cc sv) ∧ sg = [asgW Y z lf tk' bt' (mw (FB ρ w mq (ρ 4 - b) b cc sv).1), aucW Y h ρ γ]) G Y := by
  refine x_ofV (by decide) (Nat.le_of_ble_eq_true rfl) (fun p e s m args below meth c A ls Q M hK hZ hw hl hret => ?_)
  obtain ⟨hx, hb, -⟩ := id M
  have hl : lv_has ls 7 [(0, .ref z), (1, .ref h), (2, .int (mw w)), (3, .int (nI b)), (4, .int (nI sm))] := hl
  have := hI.n6
  have := hI.over
  have := hI.keep
  have := hI.stepp
  have hsb := wP_le hI hbn hfe.1
  refine lv_iload_n hx hb dX0_tryFrom_0 rfl (lv_at hl 3 rfl) ?_
  refine lv_aload_n hx hb dX0_tryFrom_1 rfl (lv_at hl 1 rfl) ?_
  refine x_get M hK hw 1 0 rfl rfl ff_X0_34 rfl dX0_tryFrom_2 ?_
  refine x_cge M (tgt := 14) (by omega) (by omega) dX0_tryFrom_5 (by decide) (fun c_1 => ?_) (fun c_1 => ?_)
  · refine lv_aload_n hx hb dX0_tryFrom_14 rfl (lv_at hl 0 rfl) ?_
    refine lv_iload hx hb dX0_tryFrom_15 (lv_at hl 4 rfl) ?_
    refine x_cVV (As := [.int (nI sm)]) (k_X0_keepIfBetter l G Y z lf tk bt sv.1 sm (by subst hsm; have := wP_le hI hbn hfe.1; omega) (by have := hgd.1; omega)) cw_X0_37 [0] 0 0 M hK hZ hw hl.1 rfl (by decide) rfl rfl rfl ⟨by decide, by decide⟩ ⟨Nat.zero_le _, Nat.zero_le _⟩ rfl rfl (Nat.le_of_ble_eq_true rfl) dX0_tryFrom_17 (fun sg h_2 H locs hw => ?_)
    obtain rfl := h_2
    have hw : xW G A s.heap [asgW Y z lf tk (if sv.1 ≤ sm then va_cpy tk bt 0 0 6 else bt) (mw (if sv.1 ≤ sm then sm + 1 else sv.1)), aucW Y h ρ γ] H locs := hw
    subst hsm
    have hz0 : ρ 4 - b = 0 := by omega
    rw [keep_bw hfe] at hw
    exact hret _ _ _ _ _ dX0_tryFrom_20 hw rfl ⟨tk, _, fun _ _ => rfl, by rw [hz0]; exact keep_bt hI (by omega) hfe htk hbt, by rw [hz0]⟩
  refine lv_iload_n hx hb dX0_tryFrom_8 rfl (lv_at hl 3 rfl) ?_
  refine lv_bipush (v := (nI 6)) hx hb dX0_tryFrom_9 (by decide) ?_
  refine x_clt M (tgt := 21) (by omega) (by decide) dX0_tryFrom_11 (by decide) (fun c_3 => ?_) (fun c_3 => absurd c_3 (by omega))
  have hpk := hI.pck (j := b) (by omega) rfl
  have L36 : ∀ (lq : Nat), (lq = if w = b + 1 then 0 else ρ (22 + 21 * b) + 1) → ∀ (H : Heap) (locs : List Loc), xW G A s.heap [asgW Y z lf tk bt (mw sv.1), aucW Y h ρ γ] H locs → ∀ (ls : Array Slot), lv_has ls 7 [(0, .ref z), (1, .ref h), (2, .int (mw w)), (3, .int (nI b)), (4, .int (nI sm))] → W p l e (xRm 10 285) s m args below meth c H locs 0 0 Q (F0 m 36 ls [.int (mw lq)]) := by
    intro lq hlq H locs hw ls hl
    have hlq4 : lq ≤ 4 := by rw [hlq]; split <;> omega
    refine lv_istore (lv' := [(5, .int (mw lq)), (0, .ref z), (1, .ref h), (2, .int (mw w)), (3, .int (nI b)), (4, .int (nI sm))]) hx hb dX0_tryFrom_36 hl (by decide) rfl (fun ls hl => ?_)
    have hr1 : ρ 4 - b = (ρ 4 - (b + 1)) + 1 := by omega
    refine lv_iconst (v := (mw 0)) hx hb dX0_tryFrom_38 (by decide) ?_
    refine lv_istore (lv' := [(6, .int (mw 0)), (5, .int (mw lq)), (0, .ref z), (1, .ref h), (2, .int (mw w)), (3, .int (nI b)), (4, .int (nI sm))]) hx hb dX0_tryFrom_39 hl (by decide) rfl (fun ls hl => ?_)
    have L41 : ∀ (fu : Nat) (d : Nat) (tk2 : Nat → Int32) (bt2 : Nat → Int32), (1 + lq - d < fu) → (d ≤ 1 + lq) → (∀ q, q < b → tk2 q = tk q) → (BT ρ bt2 (FC ρ w mq (ρ 4 - (b + 1)) b cc sv d)) → ∀ (H : Heap) (locs : List Loc), xW G A s.heap [asgW Y z lf tk2 bt2 (mw (FC ρ w mq (ρ 4 - (b + 1)) b cc sv d).1), aucW Y h ρ γ] H locs → ∀ (ls : Array Slot), lv_has ls 7 [(0, .ref z), (1, .ref h), (2, .int (mw w)), (3, .int (nI b)), (4, .int (nI sm)), (5, .int (mw lq)), (6, .int (mw d))] → W p l e (xRm 10 285) s m args below meth c H locs 0 0 Q (F0 m 41 ls []) := by
      intro fu
      induction fu with
      | zero => intro d tk2 bt2 hm; exact absurd hm (Nat.not_lt_zero _)
      | succ fu ih41 =>
        intro d tk2 bt2 hm hd htk2 hbt2 H locs hw ls hl
        have hgd2 : goodS ρ w (ρ 4) (FC ρ w mq (ρ 4 - (b + 1)) b cc sv d) := by have := good_FC (m := mq) (c := cc) (b := b) (r := ρ 4 - (b + 1)) (s := sv) (d := d) (w := w) hI (by omega) (by rw [show b + (ρ 4 - (b + 1) + 1) = ρ 4 by omega]; exact hgd); rw [show b + (ρ 4 - (b + 1) + 1) = ρ 4 by omega] at this; exact this
        refine lv_iload hx hb dX0_tryFrom_41 (lv_at hl 6 rfl) ?_
        refine lv_iload hx hb dX0_tryFrom_43 (lv_at hl 5 rfl) ?_
        refine lv_icmp_gt (tgt := 65) hx hb dX0_tryFrom_45 (by decide) (fun c_4 => ?_) (fun c_4 => ?_)
        · have hdl : lq < d := (mw_lt (by omega) (by omega)).mp c_4
          have hE : FC ρ w mq (ρ 4 - (b + 1)) b cc sv d = FB ρ w mq (ρ 4 - b) b cc sv := by rw [hr1]; exact FC_end (by omega) (fun q h1 h2 => fea_chO h2 (by by_cases hz : w = b + 1; (rw [if_pos hz] at hlq; exact Or.inr ⟨hz, by omega⟩); (rw [if_neg hz] at hlq; exact Or.inl (by omega))))
          exact hret _ _ _ _ _ dX0_tryFrom_65 hw rfl ⟨tk2, bt2, htk2, by rw [← hE]; exact hbt2, by rw [← hE]⟩
        have hdl : d ≤ lq := by have := mt (mw_lt (a := lq) (b := d) (by omega) (by omega)).mpr (by first | exact c_4 | (rw [Int32.not_lt]; exact Int32.not_lt.mp c_4)); omega
        have hdp : d ≤ ρ (22 + 21 * b) + 1 ∧ (w = b + 1 → d = 0) := by by_cases hz : w = b + 1; (rw [if_pos hz] at hlq; exact ⟨by omega, fun _ => by omega⟩); (rw [if_neg hz] at hlq; exact ⟨by omega, fun z => absurd z hz⟩)
        refine lv_aload_n hx hb dX0_tryFrom_48 rfl (lv_at hl 0 rfl) ?_
        refine lv_aload_n hx hb dX0_tryFrom_49 rfl (lv_at hl 1 rfl) ?_
        refine lv_iload_n hx hb dX0_tryFrom_50 rfl (lv_at hl 2 rfl) ?_
        refine lv_iload_n hx hb dX0_tryFrom_51 rfl (lv_at hl 3 rfl) ?_
        refine lv_iload hx hb dX0_tryFrom_52 (lv_at hl 6 rfl) ?_
        refine lv_iload hx hb dX0_tryFrom_54 (lv_at hl 4 rfl) ?_
        refine x_cVV (As := [.ref h, .int (mw w), .int (nI b), .int (mw d), .int (nI sm)]) (k_X0_tryWith_3 l G Y z h lf tk2 bt2 ρ γ w mq b cc sm (FC ρ w mq (ρ 4 - (b + 1)) b cc sv d) d (hI) (hw6) (hfe) (hlf) (fun q hq => (htk2 q hq).trans (htk q hq)) (hbt2) (hgd2) (hsm) (by omega) (by omega) (by omega) (hdp)) cw_X0_44 [0, 1] 0 0 M hK hZ hw hl.1 rfl (by decide) rfl rfl rfl ⟨by decide, by decide⟩ ⟨Nat.zero_le _, Nat.zero_le _⟩ rfl rfl (Nat.le_of_ble_eq_true rfl) dX0_tryFrom_56 (fun sg h_5 H locs hw => ?_)
        obtain ⟨tka6, bta7, hta8, htb9, rfl⟩ := h_5
        have hw : xW G A s.heap [asgW Y z lf tka6 bta7 (mw (FB ρ w mq (ρ 4 - (b + 1)) (b + 1) (5 * cc + d) (FC ρ w mq (ρ 4 - (b + 1)) b cc sv d)).1), aucW Y h ρ γ] H locs := hw
        rw [← FC_1] at hw
        refine lv_iinc (v := ((mw d) + Int32.ofInt (1))) (lv' := [(6, .int ((mw d) + Int32.ofInt (1))), (0, .ref z), (1, .ref h), (2, .int (mw w)), (3, .int (nI b)), (4, .int (nI sm)), (5, .int (mw lq))]) hx hb dX0_tryFrom_59 hl (k := 6) rfl rfl (by decide) rfl (fun ls hl => ?_)
        rw [mw_inc] at hl
        refine lv_goto (tgt := 41) hx hb dX0_tryFrom_62 (by decide) ?_
        exact ih41 (1 + d) tka6 bta7 (by omega) (by omega) (fun q hq => (hta8 q hq).trans (htk2 q hq)) (by rw [FC_1]; exact htb9) _ _ hw _ (lv_sub hl [1, 2, 3, 4, 5, 6, 0] rfl)
    exact L41 (1 + lq - 0 + 1) 0 tk bt (Nat.lt_succ_self _) (by omega) (fun _ _ => rfl) (hbt) _ _ hw _ (lv_sub hl [2, 3, 4, 5, 6, 1, 0] rfl)
  refine lv_iload_n hx hb dX0_tryFrom_21 rfl (lv_at hl 3 rfl) ?_
  refine lv_iload_n hx hb dX0_tryFrom_22 rfl (lv_at hl 2 rfl) ?_
  refine lv_icmp_ne (tgt := 30) hx hb dX0_tryFrom_23 (by decide) (fun c_10 => ?_) (fun c_10 => ?_)
  · have w1_11 : ¬ w = b + 1 := fun z => c_10 ((nI_mw (by omega) (by omega)).mpr z)
    refine lv_aload_n hx hb dX0_tryFrom_30 rfl (lv_at hl 1 rfl) ?_
    refine x_get M hK hw 1 0 rfl rfl ff_X0_41 rfl dX0_tryFrom_31 ?_
    refine lv_iload_n hx hb dX0_tryFrom_34 rfl (lv_at hl 3 rfl) ?_
    refine x_iald M hK hw 1 6 rfl rfl (by omega) (by decide) dX0_tryFrom_35 ?_
    refine x_topN (n := ρ (22 + 21 * b)) (congrArg nI (pck_at (j := b) (by omega) rfl (by omega))) ?_
    have q_12 : ρ (22 + 21 * b) ≤ 3 := hI.pck (j := b) (by omega) (by omega)
    refine x_topI (y := mw (1 + (ρ (22 + 21 * b)))) mwN_1.symm ?_
    exact L36 (1 + (ρ (22 + 21 * b))) (by first | exact (if_pos w1_11).symm | exact (Nat.add_comm _ _).trans (if_neg w1_11).symm) _ _ hw _ (lv_sub hl [0, 1, 2, 3, 4] rfl)
  have w1_13 : w = b + 1 := (nI_mw (by omega) (by omega)).mp c_10
  refine lv_iconst (v := (mw 0)) hx hb dX0_tryFrom_26 (by decide) ?_
  refine lv_goto (tgt := 36) hx hb dX0_tryFrom_27 (by decide) ?_
  exact L36 0 (by first | exact (if_pos w1_13).symm | exact (Nat.add_comm _ _).trans (if_neg w1_13).symm) _ _ hw _ (lv_sub hl [0, 1, 2, 3, 4] rfl)
set_option maxHeartbeats 4000000 in
set_option maxRecDepth 20000 in
theorem k_X0_tryWith_4 (l : Launch) (G : va_G) (Y : Nat → Nat) (z h : Nat) (lf : Nat → Nat) (tk bt : Nat → Int32) (ρ : Nat → Nat) (γ : Nat → Nat → Nat) (w mq b cc sm : Nat) (sv : Nat × Nat) (d : Nat) (hI : Inv ρ) (hw6 : w ≤ 6) (hfe : feaP ρ w mq b cc) (hlf : lfOk ρ mq b cc lf) (htk : ∀ q, q < b → tk q = mw (dP b cc q)) (hbt : BT ρ bt sv) (hgd : goodS ρ w (ρ 4) sv) (hsm : sm = wP ρ b cc) (hbn : b < ρ 4) (hbq : ρ 4 ≤ b + 1 + 4) (hd5 : d < 5) (hdp : d ≤ ρ (22 + 21 * b) + 1 ∧ (w = b + 1 → d = 0)) : CtV l yX0_tryWith cX0_tryWith 6 11 311 [.ref z, .ref h, .int (mw w), .int (nI b), .int (mw d), .int (nI sm)] [asgW Y z lf tk bt (mw sv.1), aucW Y h ρ γ] (fun sg => ∃ (tk' bt' : Nat → Int32), (∀ q, q < b → tk' q = tk q) ∧ BT ρ bt' (FB ρ w mq (ρ 4 - (b + 1)) (b + 1) (5 * cc + d) sv) ∧ sg = [asgW Y z lf tk' bt' (mw (FB ρ w mq (ρ 4 - (b + 1)) (b + 1) (5 * cc + d) sv).1), aucW Y h ρ γ]) G Y := by
  refine x_ofV (by decide) (Nat.le_of_ble_eq_true rfl) (fun p e s m args below meth c A ls Q M hK hZ hw hl hret => ?_)
  obtain ⟨hx, hb, -⟩ := id M
  have hl : lv_has ls 6 [(0, .ref z), (1, .ref h), (2, .int (mw w)), (3, .int (nI b)), (4, .int (mw d)), (5, .int (nI sm))] := hl
  have hpk := hI.pck (j := b) (by omega) rfl
  obtain ⟨hdp1, hdp2⟩ := id hdp
  have hsb := wP_le hI (Nat.le_of_lt hbn) hfe.1
  have := hI.n6
  have := hI.over
  have := hI.keep
  have := hI.stepp
  refine lv_aload_n hx hb dX0_tryWith_0 rfl (lv_at hl 0 rfl) ?_
  refine x_get M hK hw 0 0 rfl rfl ff_X0_15 rfl dX0_tryWith_1 ?_
  refine lv_iload_n hx hb dX0_tryWith_4 rfl (lv_at hl 3 rfl) ?_
  refine lv_iload hx hb dX0_tryWith_5 (lv_at hl 4 rfl) ?_
  refine x_iast M hK hw 0 2 rfl rfl (by omega) (by decide) dX0_tryWith_7 (fun H locs hw => ?_)
  have hw : xW G A s.heap [asgW Y z lf (upd tk b (mw d)) bt (mw sv.1), aucW Y h ρ γ] H locs := hw
  refine lv_iload hx hb dX0_tryWith_8 (lv_at hl 4 rfl) ?_
  refine lv_iconst (v := (mw 0)) hx hb dX0_tryWith_10 (by decide) ?_
  refine lv_icmp_ne (tgt := 28) hx hb dX0_tryWith_11 (by decide) (fun c_1 => ?_) (fun c_1 => ?_)
  · have hd0 : 0 < d := Nat.pos_of_ne_zero (fun z => c_1 (by rw [z]))
    rw [mw_p hd0] at hl
    refine lv_aload_n hx hb dX0_tryWith_28 rfl (lv_at hl 0 rfl) ?_
    refine lv_aload_n hx hb dX0_tryWith_29 rfl (lv_at hl 1 rfl) ?_
    refine lv_iload_n hx hb dX0_tryWith_30 rfl (lv_at hl 3 rfl) ?_
    refine lv_iload hx hb dX0_tryWith_31 (lv_at hl 4 rfl) ?_
    refine x_cVI (As := [.ref h, .int (nI b), .int (nI (d - 1))]) (k_X0_fits l G Y z h lf (upd tk b (mw d)) bt (mw sv.1) ρ γ b (d - 1) (hI) (by omega) (by omega) (fun k hk => lf_le hI hlf hk)) cw_X0_48 [0, 1] 0 0 M hK hZ hw hl.1 rfl (by decide) rfl rfl rfl ⟨by decide, by decide⟩ ⟨Nat.zero_le _, Nat.zero_le _⟩ rfl rfl (Nat.le_of_ble_eq_true rfl) dX0_tryWith_33 (fun r sg h_2 H locs hw => ?_)
    obtain ⟨rfl, rfl⟩ := h_2
    have hw : xW G A s.heap [asgW Y z lf (upd tk b (mw d)) bt (mw sv.1), aucW Y h ρ γ] H locs := hw
    refine x_beq M (tgt := 76) dX0_tryWith_36 (by decide) (fun c_3 => ?_) (fun c_3 => ?_)
    · have hE : FB ρ w mq (ρ 4 - (b + 1)) (b + 1) (5 * cc + d) sv = sv := FB_skip (fea_chN hd5 (fit_not hlf hd0 (of_decide_eq_false c_3)))
      exact hret _ _ _ _ _ dX0_tryWith_76 hw rfl ⟨_, bt, tk_upd, by rw [hE]; exact hbt, by rw [hE]⟩
    have hfit : fitA lf ρ b (d - 1) := of_decide_eq_true c_3
    have hf1 : feaP ρ w mq (b + 1) (5 * cc + d) := fea_ch hd5 hfe hdp.1 hdp.2 (fit_all hlf hd0 hfit)
    refine lv_aload_n hx hb dX0_tryWith_39 rfl (lv_at hl 0 rfl) ?_
    refine lv_aload_n hx hb dX0_tryWith_40 rfl (lv_at hl 1 rfl) ?_
    refine lv_iload_n hx hb dX0_tryWith_41 rfl (lv_at hl 3 rfl) ?_
    refine lv_iload hx hb dX0_tryWith_42 (lv_at hl 4 rfl) ?_
    refine lv_iconst (v := (nI 1)) hx hb dX0_tryWith_44 (by decide) ?_
    refine x_cVV (As := [.ref h, .int (nI b), .int (nI (d - 1)), .int (nI 1)]) (k_X0_take_t l G Y z h lf (upd tk b (mw d)) bt (mw sv.1) ρ γ b (d - 1) (hI) (by omega) (by omega) (fun k hk => lf_le hI hlf hk) (hfit)) cw_X0_52 [0, 1] 0 0 M hK hZ hw hl.1 rfl (by decide) rfl rfl rfl ⟨by decide, by decide⟩ ⟨Nat.zero_le _, Nat.zero_le _⟩ rfl rfl (Nat.le_of_ble_eq_true rfl) dX0_tryWith_45 (fun sg h_4 H locs hw => ?_)
    obtain rfl := h_4
    have hw : xW G A s.heap [asgW Y z (tkM lf ρ b (d - 1)) (upd tk b (mw d)) bt (mw sv.1), aucW Y h ρ γ] H locs := hw
    refine lv_aload_n hx hb dX0_tryWith_48 rfl (lv_at hl 0 rfl) ?_
    refine lv_aload_n hx hb dX0_tryWith_49 rfl (lv_at hl 1 rfl) ?_
    refine lv_iload_n hx hb dX0_tryWith_50 rfl (lv_at hl 2 rfl) ?_
    refine lv_iload_n hx hb dX0_tryWith_51 rfl (lv_at hl 3 rfl) ?_
    refine lv_iconst (v := (nI 1)) hx hb dX0_tryWith_52 (by decide) ?_
    refine x_iadd M (n := 1 + b) dX0_tryWith_53 (by omega) ?_
    refine x_topN (n := (b + 1)) (congrArg nI (by omega)) ?_
    refine lv_iload hx hb dX0_tryWith_54 (lv_at hl 5 rfl) ?_
    refine lv_aload_n hx hb dX0_tryWith_56 rfl (lv_at hl 1 rfl) ?_
    refine lv_iload_n hx hb dX0_tryWith_57 rfl (lv_at hl 3 rfl) ?_
    refine lv_iload hx hb dX0_tryWith_58 (lv_at hl 4 rfl) ?_
    refine x_cVI (As := [.int (nI b), .int (nI (d - 1))]) (k_X1_packValue l G Y h b (d - 1) ρ γ (hI) (by omega) (by omega)) cw_X0_55 [1] 1 0 M hK hZ hw hl.1 rfl (by decide) rfl rfl rfl ⟨by decide, by decide⟩ ⟨Nat.zero_le _, Nat.zero_le _⟩ rfl rfl (Nat.le_of_ble_eq_true rfl) dX0_tryWith_60 (fun r sg h_5 H locs hw => ?_)
    obtain ⟨rfl, rfl⟩ := h_5
    have hw : xW G A s.heap [asgW Y z (tkM lf ρ b (d - 1)) (upd tk b (mw d)) bt (mw sv.1), aucW Y h ρ γ] H locs := hw
    have q_6 : worOf ρ b (d - 1) ≤ 2699973 := worOf_le hI (by omega) (by omega)
    refine x_iadd M (n := sm + worOf ρ b (d - 1)) dX0_tryWith_63 rfl ?_
    refine x_cVV (As := [.ref h, .int (mw w), .int (nI (b + 1)), .int (nI (sm + worOf ρ b (d - 1)))]) (k_X0_tryFrom_4 l G Y z h (tkM lf ρ b (d - 1)) (upd tk b (mw d)) bt ρ γ w mq (b + 1) (5 * cc + d) (sm + worOf ρ b (d - 1)) sv (hI) (hw6) (hf1) (lf_take hlf hd0 hd5) (tk_set htk hd5) (hbt) (hgd) (by rw [wP_ch hd5, ← hsm]; unfold wOf; rw [if_neg (by omega)]) (by omega) (by omega)) cw_X0_30 [0, 1] 0 0 M hK hZ hw hl.1 rfl (by decide) rfl rfl rfl ⟨by decide, by decide⟩ ⟨Nat.zero_le _, Nat.zero_le _⟩ rfl rfl (Nat.le_of_ble_eq_true rfl) dX0_tryWith_64 (fun sg h_7 H locs hw => ?_)
    obtain ⟨tka8, bta9, hta10, htb11, rfl⟩ := h_7
    have hw : xW G A s.heap [asgW Y z (tkM lf ρ b (d - 1)) tka8 bta9 (mw (FB ρ w mq (ρ 4 - (b + 1)) (b + 1) (5 * cc + d) sv).1), aucW Y h ρ γ] H locs := hw
    refine lv_aload_n hx hb dX0_tryWith_67 rfl (lv_at hl 0 rfl) ?_
    refine lv_aload_n hx hb dX0_tryWith_68 rfl (lv_at hl 1 rfl) ?_
    refine lv_iload_n hx hb dX0_tryWith_69 rfl (lv_at hl 3 rfl) ?_
    refine lv_iload hx hb dX0_tryWith_70 (lv_at hl 4 rfl) ?_
    refine lv_iconst (v := (-1)) hx hb dX0_tryWith_72 (by decide) ?_
    refine x_cVV (As := [.ref h, .int (nI b), .int (nI (d - 1)), .int (-1)]) (k_X0_take_g l G Y z h (tkM lf ρ b (d - 1)) tka8 bta9 (mw (FB ρ w mq (ρ 4 - (b + 1)) (b + 1) (5 * cc + d) sv).1) ρ γ b (d - 1) (hI) (by omega) (by omega) (fun k hk => lf_le hI (lf_take hlf hd0 hd5) hk)) cw_X0_52 [0, 1] 0 0 M hK hZ hw hl.1 rfl (by decide) rfl rfl rfl ⟨by decide, by decide⟩ ⟨Nat.zero_le _, Nat.zero_le _⟩ rfl rfl (Nat.le_of_ble_eq_true rfl) dX0_tryWith_73 (fun sg h_12 H locs hw => ?_)
    obtain rfl := h_12
    have hw : xW G A s.heap [asgW Y z (tkP (tkM lf ρ b (d - 1)) ρ b (d - 1)) tka8 bta9 (mw (FB ρ w mq (ρ 4 - (b + 1)) (b + 1) (5 * cc + d) sv).1), aucW Y h ρ γ] H locs := hw
    rw [tk_back hfit] at hw
    have hw : xW G A s.heap [asgW Y z lf tka8 bta9 (mw (FB ρ w mq (ρ 4 - (b + 1)) (b + 1) (5 * cc + d) sv).1), aucW Y h ρ γ] H locs := hw
    exact hret _ _ _ _ _ dX0_tryWith_76 hw rfl ⟨tka8, bta9, tk_low hta10, htb11, rfl⟩
  obtain rfl : d = 0 := mw_inj (by omega) (by decide) c_1
  have hf1 : feaP ρ w mq (b + 1) (5 * cc + 0) := fea_ch (by decide) hfe (Nat.zero_le _) (fun _ => rfl) (fun k hk => Nat.zero_le _)
  have hw : xW G A s.heap [asgW Y z lf (upd tk b (mw 0)) bt (mw sv.1), aucW Y h ρ γ] H locs := hw
  refine lv_aload_n hx hb dX0_tryWith_14 rfl (lv_at hl 0 rfl) ?_
  refine lv_aload_n hx hb dX0_tryWith_15 rfl (lv_at hl 1 rfl) ?_
  refine lv_iload_n hx hb dX0_tryWith_16 rfl (lv_at hl 2 rfl) ?_
  refine lv_iload_n hx hb dX0_tryWith_17 rfl (lv_at hl 3 rfl) ?_
  refine lv_iconst (v := (nI 1)) hx hb dX0_tryWith_18 (by decide) ?_
  refine x_iadd M (n := 1 + b) dX0_tryWith_19 (by omega) ?_
  refine x_topN (n := (b + 1)) (congrArg nI (by omega)) ?_
  refine lv_iload hx hb dX0_tryWith_20 (lv_at hl 5 rfl) ?_
  refine x_cVV (As := [.ref h, .int (mw w), .int (nI (b + 1)), .int (nI sm)]) (k_X0_tryFrom_4 l G Y z h lf (upd tk b (mw 0)) bt ρ γ w mq (b + 1) (5 * cc + 0) sm sv (hI) (hw6) (hf1) (lf_none hlf) (tk_set htk (by decide)) (hbt) (hgd) (by rw [wP_ch (by decide)]; exact hsm) (by omega) (by omega)) cw_X0_30 [0, 1] 0 0 M hK hZ hw hl.1 rfl (by decide) rfl rfl rfl ⟨by decide, by decide⟩ ⟨Nat.zero_le _, Nat.zero_le _⟩ rfl rfl (Nat.le_of_ble_eq_true rfl) dX0_tryWith_22 (fun sg h_13 H locs hw => ?_)
  obtain ⟨tka14, bta15, hta16, htb17, rfl⟩ := h_13
  have hw : xW G A s.heap [asgW Y z lf tka14 bta15 (mw (FB ρ w mq (ρ 4 - (b + 1)) (b + 1) (5 * cc + 0) sv).1), aucW Y h ρ γ] H locs := hw
  refine lv_goto (tgt := 76) hx hb dX0_tryWith_25 (by decide) ?_
  exact hret _ _ _ _ _ dX0_tryWith_76 hw rfl ⟨tka14, bta15, tk_low hta16, htb17, rfl⟩
set_option maxHeartbeats 4000000 in
set_option maxRecDepth 20000 in
theorem k_X0_tryFrom_5 (l : Launch) (G : va_G) (Y : Nat → Nat) (z h : Nat) (lf : Nat → Nat) (tk bt : Nat → Int32) (ρ : Nat → Nat) (γ : Nat → Nat → Nat) (w mq b cc sm : Nat) (sv : Nat × Nat) (hI : Inv ρ) (hw6 : w ≤ 6) (hfe : feaP ρ w mq b cc) (hlf : lfOk ρ mq b cc lf) (htk : ∀ q, q < b → tk q = mw (dP b cc q)) (hbt : BT ρ bt sv) (hgd : goodS ρ w (ρ 4) sv) (hsm : sm = wP ρ b cc) (hbn : b ≤ ρ 4) (hbq : ρ 4 ≤ b + 5) : CtV l yX0_tryFrom cX0_tryFrom 7 12 336 [.ref z, .ref h, .int (mw w), .int (nI b), .int (nI sm)] [asgW Y z lf tk bt (mw sv.1), aucW Y h ρ γ] (fun sg => ∃ (tk' bt' : Nat → Int32), (∀ q, q < b → tk' q = tk q) ∧ BT ρ bt' (FB ρ w mq (ρ 4 - b) b cc sv) ∧ sg = [asgW Y z lf tk' bt' (mw (FB ρ w mq (ρ 4 - b) b cc sv).1), aucW Y h ρ γ]) G Y := by
  refine x_ofV (by decide) (Nat.le_of_ble_eq_true rfl) (fun p e s m args below meth c A ls Q M hK hZ hw hl hret => ?_)
  obtain ⟨hx, hb, -⟩ := id M
  have hl : lv_has ls 7 [(0, .ref z), (1, .ref h), (2, .int (mw w)), (3, .int (nI b)), (4, .int (nI sm))] := hl
  have := hI.n6
  have := hI.over
  have := hI.keep
  have := hI.stepp
  have hsb := wP_le hI hbn hfe.1
  refine lv_iload_n hx hb dX0_tryFrom_0 rfl (lv_at hl 3 rfl) ?_
  refine lv_aload_n hx hb dX0_tryFrom_1 rfl (lv_at hl 1 rfl) ?_
  refine x_get M hK hw 1 0 rfl rfl ff_X0_34 rfl dX0_tryFrom_2 ?_
  refine x_cge M (tgt := 14) (by omega) (by omega) dX0_tryFrom_5 (by decide) (fun c_1 => ?_) (fun c_1 => ?_)
  · refine lv_aload_n hx hb dX0_tryFrom_14 rfl (lv_at hl 0 rfl) ?_
    refine lv_iload hx hb dX0_tryFrom_15 (lv_at hl 4 rfl) ?_
    refine x_cVV (As := [.int (nI sm)]) (k_X0_keepIfBetter l G Y z lf tk bt sv.1 sm (by subst hsm; have := wP_le hI hbn hfe.1; omega) (by have := hgd.1; omega)) cw_X0_37 [0] 0 0 M hK hZ hw hl.1 rfl (by decide) rfl rfl rfl ⟨by decide, by decide⟩ ⟨Nat.zero_le _, Nat.zero_le _⟩ rfl rfl (Nat.le_of_ble_eq_true rfl) dX0_tryFrom_17 (fun sg h_2 H locs hw => ?_)
    obtain rfl := h_2
    have hw : xW G A s.heap [asgW Y z lf tk (if sv.1 ≤ sm then va_cpy tk bt 0 0 6 else bt) (mw (if sv.1 ≤ sm then sm + 1 else sv.1)), aucW Y h ρ γ] H locs := hw
    subst hsm
    have hz0 : ρ 4 - b = 0 := by omega
    rw [keep_bw hfe] at hw
    exact hret _ _ _ _ _ dX0_tryFrom_20 hw rfl ⟨tk, _, fun _ _ => rfl, by rw [hz0]; exact keep_bt hI (by omega) hfe htk hbt, by rw [hz0]⟩
  refine lv_iload_n hx hb dX0_tryFrom_8 rfl (lv_at hl 3 rfl) ?_
  refine lv_bipush (v := (nI 6)) hx hb dX0_tryFrom_9 (by decide) ?_
  refine x_clt M (tgt := 21) (by omega) (by decide) dX0_tryFrom_11 (by decide) (fun c_3 => ?_) (fun c_3 => absurd c_3 (by omega))
  have hpk := hI.pck (j := b) (by omega) rfl
  have L36 : ∀ (lq : Nat), (lq = if w = b + 1 then 0 else ρ (22 + 21 * b) + 1) → ∀ (H : Heap) (locs : List Loc), xW G A s.heap [asgW Y z lf tk bt (mw sv.1), aucW Y h ρ γ] H locs → ∀ (ls : Array Slot), lv_has ls 7 [(0, .ref z), (1, .ref h), (2, .int (mw w)), (3, .int (nI b)), (4, .int (nI sm))] → W p l e (xRm 12 336) s m args below meth c H locs 0 0 Q (F0 m 36 ls [.int (mw lq)]) := by
    intro lq hlq H locs hw ls hl
    have hlq4 : lq ≤ 4 := by rw [hlq]; split <;> omega
    refine lv_istore (lv' := [(5, .int (mw lq)), (0, .ref z), (1, .ref h), (2, .int (mw w)), (3, .int (nI b)), (4, .int (nI sm))]) hx hb dX0_tryFrom_36 hl (by decide) rfl (fun ls hl => ?_)
    have hr1 : ρ 4 - b = (ρ 4 - (b + 1)) + 1 := by omega
    refine lv_iconst (v := (mw 0)) hx hb dX0_tryFrom_38 (by decide) ?_
    refine lv_istore (lv' := [(6, .int (mw 0)), (5, .int (mw lq)), (0, .ref z), (1, .ref h), (2, .int (mw w)), (3, .int (nI b)), (4, .int (nI sm))]) hx hb dX0_tryFrom_39 hl (by decide) rfl (fun ls hl => ?_)
    have L41 : ∀ (fu : Nat) (d : Nat) (tk2 : Nat → Int32) (bt2 : Nat → Int32), (1 + lq - d < fu) → (d ≤ 1 + lq) → (∀ q, q < b → tk2 q = tk q) → (BT ρ bt2 (FC ρ w mq (ρ 4 - (b + 1)) b cc sv d)) → ∀ (H : Heap) (locs : List Loc), xW G A s.heap [asgW Y z lf tk2 bt2 (mw (FC ρ w mq (ρ 4 - (b + 1)) b cc sv d).1), aucW Y h ρ γ] H locs → ∀ (ls : Array Slot), lv_has ls 7 [(0, .ref z), (1, .ref h), (2, .int (mw w)), (3, .int (nI b)), (4, .int (nI sm)), (5, .int (mw lq)), (6, .int (mw d))] → W p l e (xRm 12 336) s m args below meth c H locs 0 0 Q (F0 m 41 ls []) := by
      intro fu
      induction fu with
      | zero => intro d tk2 bt2 hm; exact absurd hm (Nat.not_lt_zero _)
      | succ fu ih41 =>
        intro d tk2 bt2 hm hd htk2 hbt2 H locs hw ls hl
        have hgd2 : goodS ρ w (ρ 4) (FC ρ w mq (ρ 4 - (b + 1)) b cc sv d) := by have := good_FC (m := mq) (c := cc) (b := b) (r := ρ 4 - (b + 1)) (s := sv) (d := d) (w := w) hI (by omega) (by rw [show b + (ρ 4 - (b + 1) + 1) = ρ 4 by omega]; exact hgd); rw [show b + (ρ 4 - (b + 1) + 1) = ρ 4 by omega] at this; exact this
        refine lv_iload hx hb dX0_tryFrom_41 (lv_at hl 6 rfl) ?_
        refine lv_iload hx hb dX0_tryFrom_43 (lv_at hl 5 rfl) ?_
        refine lv_icmp_gt (tgt := 65) hx hb dX0_tryFrom_45 (by decide) (fun c_4 => ?_) (fun c_4 => ?_)
        · have hdl : lq < d := (mw_lt (by omega) (by omega)).mp c_4
          have hE : FC ρ w mq (ρ 4 - (b + 1)) b cc sv d = FB ρ w mq (ρ 4 - b) b cc sv := by rw [hr1]; exact FC_end (by omega) (fun q h1 h2 => fea_chO h2 (by by_cases hz : w = b + 1; (rw [if_pos hz] at hlq; exact Or.inr ⟨hz, by omega⟩); (rw [if_neg hz] at hlq; exact Or.inl (by omega))))
          exact hret _ _ _ _ _ dX0_tryFrom_65 hw rfl ⟨tk2, bt2, htk2, by rw [← hE]; exact hbt2, by rw [← hE]⟩
        have hdl : d ≤ lq := by have := mt (mw_lt (a := lq) (b := d) (by omega) (by omega)).mpr (by first | exact c_4 | (rw [Int32.not_lt]; exact Int32.not_lt.mp c_4)); omega
        have hdp : d ≤ ρ (22 + 21 * b) + 1 ∧ (w = b + 1 → d = 0) := by by_cases hz : w = b + 1; (rw [if_pos hz] at hlq; exact ⟨by omega, fun _ => by omega⟩); (rw [if_neg hz] at hlq; exact ⟨by omega, fun z => absurd z hz⟩)
        refine lv_aload_n hx hb dX0_tryFrom_48 rfl (lv_at hl 0 rfl) ?_
        refine lv_aload_n hx hb dX0_tryFrom_49 rfl (lv_at hl 1 rfl) ?_
        refine lv_iload_n hx hb dX0_tryFrom_50 rfl (lv_at hl 2 rfl) ?_
        refine lv_iload_n hx hb dX0_tryFrom_51 rfl (lv_at hl 3 rfl) ?_
        refine lv_iload hx hb dX0_tryFrom_52 (lv_at hl 6 rfl) ?_
        refine lv_iload hx hb dX0_tryFrom_54 (lv_at hl 4 rfl) ?_
        refine x_cVV (As := [.ref h, .int (mw w), .int (nI b), .int (mw d), .int (nI sm)]) (k_X0_tryWith_4 l G Y z h lf tk2 bt2 ρ γ w mq b cc sm (FC ρ w mq (ρ 4 - (b + 1)) b cc sv d) d (hI) (hw6) (hfe) (hlf) (fun q hq => (htk2 q hq).trans (htk q hq)) (hbt2) (hgd2) (hsm) (by omega) (by omega) (by omega) (hdp)) cw_X0_44 [0, 1] 0 0 M hK hZ hw hl.1 rfl (by decide) rfl rfl rfl ⟨by decide, by decide⟩ ⟨Nat.zero_le _, Nat.zero_le _⟩ rfl rfl (Nat.le_of_ble_eq_true rfl) dX0_tryFrom_56 (fun sg h_5 H locs hw => ?_)
        obtain ⟨tka6, bta7, hta8, htb9, rfl⟩ := h_5
        have hw : xW G A s.heap [asgW Y z lf tka6 bta7 (mw (FB ρ w mq (ρ 4 - (b + 1)) (b + 1) (5 * cc + d) (FC ρ w mq (ρ 4 - (b + 1)) b cc sv d)).1), aucW Y h ρ γ] H locs := hw
        rw [← FC_1] at hw
        refine lv_iinc (v := ((mw d) + Int32.ofInt (1))) (lv' := [(6, .int ((mw d) + Int32.ofInt (1))), (0, .ref z), (1, .ref h), (2, .int (mw w)), (3, .int (nI b)), (4, .int (nI sm)), (5, .int (mw lq))]) hx hb dX0_tryFrom_59 hl (k := 6) rfl rfl (by decide) rfl (fun ls hl => ?_)
        rw [mw_inc] at hl
        refine lv_goto (tgt := 41) hx hb dX0_tryFrom_62 (by decide) ?_
        exact ih41 (1 + d) tka6 bta7 (by omega) (by omega) (fun q hq => (hta8 q hq).trans (htk2 q hq)) (by rw [FC_1]; exact htb9) _ _ hw _ (lv_sub hl [1, 2, 3, 4, 5, 6, 0] rfl)
    exact L41 (1 + lq - 0 + 1) 0 tk bt (Nat.lt_succ_self _) (by omega) (fun _ _ => rfl) (hbt) _ _ hw _ (lv_sub hl [2, 3, 4, 5, 6, 1, 0] rfl)
  refine lv_iload_n hx hb dX0_tryFrom_21 rfl (lv_at hl 3 rfl) ?_
  refine lv_iload_n hx hb dX0_tryFrom_22 rfl (lv_at hl 2 rfl) ?_
  refine lv_icmp_ne (tgt := 30) hx hb dX0_tryFrom_23 (by decide) (fun c_10 => ?_) (fun c_10 => ?_)
  · have w1_11 : ¬ w = b + 1 := fun z => c_10 ((nI_mw (by omega) (by omega)).mpr z)
    refine lv_aload_n hx hb dX0_tryFrom_30 rfl (lv_at hl 1 rfl) ?_
    refine x_get M hK hw 1 0 rfl rfl ff_X0_41 rfl dX0_tryFrom_31 ?_
    refine lv_iload_n hx hb dX0_tryFrom_34 rfl (lv_at hl 3 rfl) ?_
    refine x_iald M hK hw 1 6 rfl rfl (by omega) (by decide) dX0_tryFrom_35 ?_
    refine x_topN (n := ρ (22 + 21 * b)) (congrArg nI (pck_at (j := b) (by omega) rfl (by omega))) ?_
    have q_12 : ρ (22 + 21 * b) ≤ 3 := hI.pck (j := b) (by omega) (by omega)
    refine x_topI (y := mw (1 + (ρ (22 + 21 * b)))) mwN_1.symm ?_
    exact L36 (1 + (ρ (22 + 21 * b))) (by first | exact (if_pos w1_11).symm | exact (Nat.add_comm _ _).trans (if_neg w1_11).symm) _ _ hw _ (lv_sub hl [0, 1, 2, 3, 4] rfl)
  have w1_13 : w = b + 1 := (nI_mw (by omega) (by omega)).mp c_10
  refine lv_iconst (v := (mw 0)) hx hb dX0_tryFrom_26 (by decide) ?_
  refine lv_goto (tgt := 36) hx hb dX0_tryFrom_27 (by decide) ?_
  exact L36 0 (by first | exact (if_pos w1_13).symm | exact (Nat.add_comm _ _).trans (if_neg w1_13).symm) _ _ hw _ (lv_sub hl [0, 1, 2, 3, 4] rfl)
set_option maxHeartbeats 4000000 in
set_option maxRecDepth 20000 in
theorem k_X0_tryWith_5 (l : Launch) (G : va_G) (Y : Nat → Nat) (z h : Nat) (lf : Nat → Nat) (tk bt : Nat → Int32) (ρ : Nat → Nat) (γ : Nat → Nat → Nat) (w mq b cc sm : Nat) (sv : Nat × Nat) (d : Nat) (hI : Inv ρ) (hw6 : w ≤ 6) (hfe : feaP ρ w mq b cc) (hlf : lfOk ρ mq b cc lf) (htk : ∀ q, q < b → tk q = mw (dP b cc q)) (hbt : BT ρ bt sv) (hgd : goodS ρ w (ρ 4) sv) (hsm : sm = wP ρ b cc) (hbn : b < ρ 4) (hbq : ρ 4 ≤ b + 1 + 5) (hd5 : d < 5) (hdp : d ≤ ρ (22 + 21 * b) + 1 ∧ (w = b + 1 → d = 0)) : CtV l yX0_tryWith cX0_tryWith 6 13 362 [.ref z, .ref h, .int (mw w), .int (nI b), .int (mw d), .int (nI sm)] [asgW Y z lf tk bt (mw sv.1), aucW Y h ρ γ] (fun sg => ∃ (tk' bt' : Nat → Int32), (∀ q, q < b → tk' q = tk q) ∧ BT ρ bt' (FB ρ w mq (ρ 4 - (b + 1)) (b + 1) (5 * cc + d) sv) ∧ sg = [asgW Y z lf tk' bt' (mw (FB ρ w mq (ρ 4 - (b + 1)) (b + 1) (5 * cc + d) sv).1), aucW Y h ρ γ]) G Y := by
  refine x_ofV (by decide) (Nat.le_of_ble_eq_true rfl) (fun p e s m args below meth c A ls Q M hK hZ hw hl hret => ?_)
  obtain ⟨hx, hb, -⟩ := id M
  have hl : lv_has ls 6 [(0, .ref z), (1, .ref h), (2, .int (mw w)), (3, .int (nI b)), (4, .int (mw d)), (5, .int (nI sm))] := hl
  have hpk := hI.pck (j := b) (by omega) rfl
  obtain ⟨hdp1, hdp2⟩ := id hdp
  have hsb := wP_le hI (Nat.le_of_lt hbn) hfe.1
  have := hI.n6
  have := hI.over
  have := hI.keep
  have := hI.stepp
  refine lv_aload_n hx hb dX0_tryWith_0 rfl (lv_at hl 0 rfl) ?_
  refine x_get M hK hw 0 0 rfl rfl ff_X0_15 rfl dX0_tryWith_1 ?_
  refine lv_iload_n hx hb dX0_tryWith_4 rfl (lv_at hl 3 rfl) ?_
  refine lv_iload hx hb dX0_tryWith_5 (lv_at hl 4 rfl) ?_
  refine x_iast M hK hw 0 2 rfl rfl (by omega) (by decide) dX0_tryWith_7 (fun H locs hw => ?_)
  have hw : xW G A s.heap [asgW Y z lf (upd tk b (mw d)) bt (mw sv.1), aucW Y h ρ γ] H locs := hw
  refine lv_iload hx hb dX0_tryWith_8 (lv_at hl 4 rfl) ?_
  refine lv_iconst (v := (mw 0)) hx hb dX0_tryWith_10 (by decide) ?_
  refine lv_icmp_ne (tgt := 28) hx hb dX0_tryWith_11 (by decide) (fun c_1 => ?_) (fun c_1 => ?_)
  · have hd0 : 0 < d := Nat.pos_of_ne_zero (fun z => c_1 (by rw [z]))
    rw [mw_p hd0] at hl
    refine lv_aload_n hx hb dX0_tryWith_28 rfl (lv_at hl 0 rfl) ?_
    refine lv_aload_n hx hb dX0_tryWith_29 rfl (lv_at hl 1 rfl) ?_
    refine lv_iload_n hx hb dX0_tryWith_30 rfl (lv_at hl 3 rfl) ?_
    refine lv_iload hx hb dX0_tryWith_31 (lv_at hl 4 rfl) ?_
    refine x_cVI (As := [.ref h, .int (nI b), .int (nI (d - 1))]) (k_X0_fits l G Y z h lf (upd tk b (mw d)) bt (mw sv.1) ρ γ b (d - 1) (hI) (by omega) (by omega) (fun k hk => lf_le hI hlf hk)) cw_X0_48 [0, 1] 0 0 M hK hZ hw hl.1 rfl (by decide) rfl rfl rfl ⟨by decide, by decide⟩ ⟨Nat.zero_le _, Nat.zero_le _⟩ rfl rfl (Nat.le_of_ble_eq_true rfl) dX0_tryWith_33 (fun r sg h_2 H locs hw => ?_)
    obtain ⟨rfl, rfl⟩ := h_2
    have hw : xW G A s.heap [asgW Y z lf (upd tk b (mw d)) bt (mw sv.1), aucW Y h ρ γ] H locs := hw
    refine x_beq M (tgt := 76) dX0_tryWith_36 (by decide) (fun c_3 => ?_) (fun c_3 => ?_)
    · have hE : FB ρ w mq (ρ 4 - (b + 1)) (b + 1) (5 * cc + d) sv = sv := FB_skip (fea_chN hd5 (fit_not hlf hd0 (of_decide_eq_false c_3)))
      exact hret _ _ _ _ _ dX0_tryWith_76 hw rfl ⟨_, bt, tk_upd, by rw [hE]; exact hbt, by rw [hE]⟩
    have hfit : fitA lf ρ b (d - 1) := of_decide_eq_true c_3
    have hf1 : feaP ρ w mq (b + 1) (5 * cc + d) := fea_ch hd5 hfe hdp.1 hdp.2 (fit_all hlf hd0 hfit)
    refine lv_aload_n hx hb dX0_tryWith_39 rfl (lv_at hl 0 rfl) ?_
    refine lv_aload_n hx hb dX0_tryWith_40 rfl (lv_at hl 1 rfl) ?_
    refine lv_iload_n hx hb dX0_tryWith_41 rfl (lv_at hl 3 rfl) ?_
    refine lv_iload hx hb dX0_tryWith_42 (lv_at hl 4 rfl) ?_
    refine lv_iconst (v := (nI 1)) hx hb dX0_tryWith_44 (by decide) ?_
    refine x_cVV (As := [.ref h, .int (nI b), .int (nI (d - 1)), .int (nI 1)]) (k_X0_take_t l G Y z h lf (upd tk b (mw d)) bt (mw sv.1) ρ γ b (d - 1) (hI) (by omega) (by omega) (fun k hk => lf_le hI hlf hk) (hfit)) cw_X0_52 [0, 1] 0 0 M hK hZ hw hl.1 rfl (by decide) rfl rfl rfl ⟨by decide, by decide⟩ ⟨Nat.zero_le _, Nat.zero_le _⟩ rfl rfl (Nat.le_of_ble_eq_true rfl) dX0_tryWith_45 (fun sg h_4 H locs hw => ?_)
    obtain rfl := h_4
    have hw : xW G A s.heap [asgW Y z (tkM lf ρ b (d - 1)) (upd tk b (mw d)) bt (mw sv.1), aucW Y h ρ γ] H locs := hw
    refine lv_aload_n hx hb dX0_tryWith_48 rfl (lv_at hl 0 rfl) ?_
    refine lv_aload_n hx hb dX0_tryWith_49 rfl (lv_at hl 1 rfl) ?_
    refine lv_iload_n hx hb dX0_tryWith_50 rfl (lv_at hl 2 rfl) ?_
    refine lv_iload_n hx hb dX0_tryWith_51 rfl (lv_at hl 3 rfl) ?_
    refine lv_iconst (v := (nI 1)) hx hb dX0_tryWith_52 (by decide) ?_
    refine x_iadd M (n := 1 + b) dX0_tryWith_53 (by omega) ?_
    refine x_topN (n := (b + 1)) (congrArg nI (by omega)) ?_
    refine lv_iload hx hb dX0_tryWith_54 (lv_at hl 5 rfl) ?_
    refine lv_aload_n hx hb dX0_tryWith_56 rfl (lv_at hl 1 rfl) ?_
    refine lv_iload_n hx hb dX0_tryWith_57 rfl (lv_at hl 3 rfl) ?_
    refine lv_iload hx hb dX0_tryWith_58 (lv_at hl 4 rfl) ?_
    refine x_cVI (As := [.int (nI b), .int (nI (d - 1))]) (k_X1_packValue l G Y h b (d - 1) ρ γ (hI) (by omega) (by omega)) cw_X0_55 [1] 1 0 M hK hZ hw hl.1 rfl (by decide) rfl rfl rfl ⟨by decide, by decide⟩ ⟨Nat.zero_le _, Nat.zero_le _⟩ rfl rfl (Nat.le_of_ble_eq_true rfl) dX0_tryWith_60 (fun r sg h_5 H locs hw => ?_)
    obtain ⟨rfl, rfl⟩ := h_5
    have hw : xW G A s.heap [asgW Y z (tkM lf ρ b (d - 1)) (upd tk b (mw d)) bt (mw sv.1), aucW Y h ρ γ] H locs := hw
    have q_6 : worOf ρ b (d - 1) ≤ 2699973 := worOf_le hI (by omega) (by omega)
    refine x_iadd M (n := sm + worOf ρ b (d - 1)) dX0_tryWith_63 rfl ?_
    refine x_cVV (As := [.ref h, .int (mw w), .int (nI (b + 1)), .int (nI (sm + worOf ρ b (d - 1)))]) (k_X0_tryFrom_5 l G Y z h (tkM lf ρ b (d - 1)) (upd tk b (mw d)) bt ρ γ w mq (b + 1) (5 * cc + d) (sm + worOf ρ b (d - 1)) sv (hI) (hw6) (hf1) (lf_take hlf hd0 hd5) (tk_set htk hd5) (hbt) (hgd) (by rw [wP_ch hd5, ← hsm]; unfold wOf; rw [if_neg (by omega)]) (by omega) (by omega)) cw_X0_30 [0, 1] 0 0 M hK hZ hw hl.1 rfl (by decide) rfl rfl rfl ⟨by decide, by decide⟩ ⟨Nat.zero_le _, Nat.zero_le _⟩ rfl rfl (Nat.le_of_ble_eq_true rfl) dX0_tryWith_64 (fun sg h_7 H locs hw => ?_)
    obtain ⟨tka8, bta9, hta10, htb11, rfl⟩ := h_7
    have hw : xW G A s.heap [asgW Y z (tkM lf ρ b (d - 1)) tka8 bta9 (mw (FB ρ w mq (ρ 4 - (b + 1)) (b + 1) (5 * cc + d) sv).1), aucW Y h ρ γ] H locs := hw
    refine lv_aload_n hx hb dX0_tryWith_67 rfl (lv_at hl 0 rfl) ?_
    refine lv_aload_n hx hb dX0_tryWith_68 rfl (lv_at hl 1 rfl) ?_
    refine lv_iload_n hx hb dX0_tryWith_69 rfl (lv_at hl 3 rfl) ?_
    refine lv_iload hx hb dX0_tryWith_70 (lv_at hl 4 rfl) ?_
    refine lv_iconst (v := (-1)) hx hb dX0_tryWith_72 (by decide) ?_
    refine x_cVV (As := [.ref h, .int (nI b), .int (nI (d - 1)), .int (-1)]) (k_X0_take_g l G Y z h (tkM lf ρ b (d - 1)) tka8 bta9 (mw (FB ρ w mq (ρ 4 - (b + 1)) (b + 1) (5 * cc + d) sv).1) ρ γ b (d - 1) (hI) (by omega) (by omega) (fun k hk => lf_le hI (lf_take hlf hd0 hd5) hk)) cw_X0_52 [0, 1] 0 0 M hK hZ hw hl.1 rfl (by decide) rfl rfl rfl ⟨by decide, by decide⟩ ⟨Nat.zero_le _, Nat.zero_le _⟩ rfl rfl (Nat.le_of_ble_eq_true rfl) dX0_tryWith_73 (fun sg h_12 H locs hw => ?_)
    obtain rfl := h_12
    have hw : xW G A s.heap [asgW Y z (tkP (tkM lf ρ b (d - 1)) ρ b (d - 1)) tka8 bta9 (mw (FB ρ w mq (ρ 4 - (b + 1)) (b + 1) (5 * cc + d) sv).1), aucW Y h ρ γ] H locs := hw
    rw [tk_back hfit] at hw
    have hw : xW G A s.heap [asgW Y z lf tka8 bta9 (mw (FB ρ w mq (ρ 4 - (b + 1)) (b + 1) (5 * cc + d) sv).1), aucW Y h ρ γ] H locs := hw
    exact hret _ _ _ _ _ dX0_tryWith_76 hw rfl ⟨tka8, bta9, tk_low hta10, htb11, rfl⟩
  obtain rfl : d = 0 := mw_inj (by omega) (by decide) c_1
  have hf1 : feaP ρ w mq (b + 1) (5 * cc + 0) := fea_ch (by decide) hfe (Nat.zero_le _) (fun _ => rfl) (fun k hk => Nat.zero_le _)
  have hw : xW G A s.heap [asgW Y z lf (upd tk b (mw 0)) bt (mw sv.1), aucW Y h ρ γ] H locs := hw
  refine lv_aload_n hx hb dX0_tryWith_14 rfl (lv_at hl 0 rfl) ?_
  refine lv_aload_n hx hb dX0_tryWith_15 rfl (lv_at hl 1 rfl) ?_
  refine lv_iload_n hx hb dX0_tryWith_16 rfl (lv_at hl 2 rfl) ?_
  refine lv_iload_n hx hb dX0_tryWith_17 rfl (lv_at hl 3 rfl) ?_
  refine lv_iconst (v := (nI 1)) hx hb dX0_tryWith_18 (by decide) ?_
  refine x_iadd M (n := 1 + b) dX0_tryWith_19 (by omega) ?_
  refine x_topN (n := (b + 1)) (congrArg nI (by omega)) ?_
  refine lv_iload hx hb dX0_tryWith_20 (lv_at hl 5 rfl) ?_
  refine x_cVV (As := [.ref h, .int (mw w), .int (nI (b + 1)), .int (nI sm)]) (k_X0_tryFrom_5 l G Y z h lf (upd tk b (mw 0)) bt ρ γ w mq (b + 1) (5 * cc + 0) sm sv (hI) (hw6) (hf1) (lf_none hlf) (tk_set htk (by decide)) (hbt) (hgd) (by rw [wP_ch (by decide)]; exact hsm) (by omega) (by omega)) cw_X0_30 [0, 1] 0 0 M hK hZ hw hl.1 rfl (by decide) rfl rfl rfl ⟨by decide, by decide⟩ ⟨Nat.zero_le _, Nat.zero_le _⟩ rfl rfl (Nat.le_of_ble_eq_true rfl) dX0_tryWith_22 (fun sg h_13 H locs hw => ?_)
  obtain ⟨tka14, bta15, hta16, htb17, rfl⟩ := h_13
  have hw : xW G A s.heap [asgW Y z lf tka14 bta15 (mw (FB ρ w mq (ρ 4 - (b + 1)) (b + 1) (5 * cc + 0) sv).1), aucW Y h ρ γ] H locs := hw
  refine lv_goto (tgt := 76) hx hb dX0_tryWith_25 (by decide) ?_
  exact hret _ _ _ _ _ dX0_tryWith_76 hw rfl ⟨tka14, bta15, tk_low hta16, htb17, rfl⟩
set_option maxHeartbeats 4000000 in
set_option maxRecDepth 20000 in
theorem k_X0_tryFrom_6 (l : Launch) (G : va_G) (Y : Nat → Nat) (z h : Nat) (lf : Nat → Nat) (tk bt : Nat → Int32) (ρ : Nat → Nat) (γ : Nat → Nat → Nat) (w mq b cc sm : Nat) (sv : Nat × Nat) (hI : Inv ρ) (hw6 : w ≤ 6) (hfe : feaP ρ w mq b cc) (hlf : lfOk ρ mq b cc lf) (htk : ∀ q, q < b → tk q = mw (dP b cc q)) (hbt : BT ρ bt sv) (hgd : goodS ρ w (ρ 4) sv) (hsm : sm = wP ρ b cc) (hbn : b ≤ ρ 4) (hbq : ρ 4 ≤ b + 6) : CtV l yX0_tryFrom cX0_tryFrom 7 14 387 [.ref z, .ref h, .int (mw w), .int (nI b), .int (nI sm)] [asgW Y z lf tk bt (mw sv.1), aucW Y h ρ γ] (fun sg => ∃ (tk' bt' : Nat → Int32), (∀ q, q < b → tk' q = tk q) ∧ BT ρ bt' (FB ρ w mq (ρ 4 - b) b cc sv) ∧ sg = [asgW Y z lf tk' bt' (mw (FB ρ w mq (ρ 4 - b) b cc sv).1), aucW Y h ρ γ]) G Y := by
  refine x_ofV (by decide) (Nat.le_of_ble_eq_true rfl) (fun p e s m args below meth c A ls Q M hK hZ hw hl hret => ?_)
  obtain ⟨hx, hb, -⟩ := id M
  have hl : lv_has ls 7 [(0, .ref z), (1, .ref h), (2, .int (mw w)), (3, .int (nI b)), (4, .int (nI sm))] := hl
  have := hI.n6
  have := hI.over
  have := hI.keep
  have := hI.stepp
  have hsb := wP_le hI hbn hfe.1
  refine lv_iload_n hx hb dX0_tryFrom_0 rfl (lv_at hl 3 rfl) ?_
  refine lv_aload_n hx hb dX0_tryFrom_1 rfl (lv_at hl 1 rfl) ?_
  refine x_get M hK hw 1 0 rfl rfl ff_X0_34 rfl dX0_tryFrom_2 ?_
  refine x_cge M (tgt := 14) (by omega) (by omega) dX0_tryFrom_5 (by decide) (fun c_1 => ?_) (fun c_1 => ?_)
  · refine lv_aload_n hx hb dX0_tryFrom_14 rfl (lv_at hl 0 rfl) ?_
    refine lv_iload hx hb dX0_tryFrom_15 (lv_at hl 4 rfl) ?_
    refine x_cVV (As := [.int (nI sm)]) (k_X0_keepIfBetter l G Y z lf tk bt sv.1 sm (by subst hsm; have := wP_le hI hbn hfe.1; omega) (by have := hgd.1; omega)) cw_X0_37 [0] 0 0 M hK hZ hw hl.1 rfl (by decide) rfl rfl rfl ⟨by decide, by decide⟩ ⟨Nat.zero_le _, Nat.zero_le _⟩ rfl rfl (Nat.le_of_ble_eq_true rfl) dX0_tryFrom_17 (fun sg h_2 H locs hw => ?_)
    obtain rfl := h_2
    have hw : xW G A s.heap [asgW Y z lf tk (if sv.1 ≤ sm then va_cpy tk bt 0 0 6 else bt) (mw (if sv.1 ≤ sm then sm + 1 else sv.1)), aucW Y h ρ γ] H locs := hw
    subst hsm
    have hz0 : ρ 4 - b = 0 := by omega
    rw [keep_bw hfe] at hw
    exact hret _ _ _ _ _ dX0_tryFrom_20 hw rfl ⟨tk, _, fun _ _ => rfl, by rw [hz0]; exact keep_bt hI (by omega) hfe htk hbt, by rw [hz0]⟩
  refine lv_iload_n hx hb dX0_tryFrom_8 rfl (lv_at hl 3 rfl) ?_
  refine lv_bipush (v := (nI 6)) hx hb dX0_tryFrom_9 (by decide) ?_
  refine x_clt M (tgt := 21) (by omega) (by decide) dX0_tryFrom_11 (by decide) (fun c_3 => ?_) (fun c_3 => absurd c_3 (by omega))
  have hpk := hI.pck (j := b) (by omega) rfl
  have L36 : ∀ (lq : Nat), (lq = if w = b + 1 then 0 else ρ (22 + 21 * b) + 1) → ∀ (H : Heap) (locs : List Loc), xW G A s.heap [asgW Y z lf tk bt (mw sv.1), aucW Y h ρ γ] H locs → ∀ (ls : Array Slot), lv_has ls 7 [(0, .ref z), (1, .ref h), (2, .int (mw w)), (3, .int (nI b)), (4, .int (nI sm))] → W p l e (xRm 14 387) s m args below meth c H locs 0 0 Q (F0 m 36 ls [.int (mw lq)]) := by
    intro lq hlq H locs hw ls hl
    have hlq4 : lq ≤ 4 := by rw [hlq]; split <;> omega
    refine lv_istore (lv' := [(5, .int (mw lq)), (0, .ref z), (1, .ref h), (2, .int (mw w)), (3, .int (nI b)), (4, .int (nI sm))]) hx hb dX0_tryFrom_36 hl (by decide) rfl (fun ls hl => ?_)
    have hr1 : ρ 4 - b = (ρ 4 - (b + 1)) + 1 := by omega
    refine lv_iconst (v := (mw 0)) hx hb dX0_tryFrom_38 (by decide) ?_
    refine lv_istore (lv' := [(6, .int (mw 0)), (5, .int (mw lq)), (0, .ref z), (1, .ref h), (2, .int (mw w)), (3, .int (nI b)), (4, .int (nI sm))]) hx hb dX0_tryFrom_39 hl (by decide) rfl (fun ls hl => ?_)
    have L41 : ∀ (fu : Nat) (d : Nat) (tk2 : Nat → Int32) (bt2 : Nat → Int32), (1 + lq - d < fu) → (d ≤ 1 + lq) → (∀ q, q < b → tk2 q = tk q) → (BT ρ bt2 (FC ρ w mq (ρ 4 - (b + 1)) b cc sv d)) → ∀ (H : Heap) (locs : List Loc), xW G A s.heap [asgW Y z lf tk2 bt2 (mw (FC ρ w mq (ρ 4 - (b + 1)) b cc sv d).1), aucW Y h ρ γ] H locs → ∀ (ls : Array Slot), lv_has ls 7 [(0, .ref z), (1, .ref h), (2, .int (mw w)), (3, .int (nI b)), (4, .int (nI sm)), (5, .int (mw lq)), (6, .int (mw d))] → W p l e (xRm 14 387) s m args below meth c H locs 0 0 Q (F0 m 41 ls []) := by
      intro fu
      induction fu with
      | zero => intro d tk2 bt2 hm; exact absurd hm (Nat.not_lt_zero _)
      | succ fu ih41 =>
        intro d tk2 bt2 hm hd htk2 hbt2 H locs hw ls hl
        have hgd2 : goodS ρ w (ρ 4) (FC ρ w mq (ρ 4 - (b + 1)) b cc sv d) := by have := good_FC (m := mq) (c := cc) (b := b) (r := ρ 4 - (b + 1)) (s := sv) (d := d) (w := w) hI (by omega) (by rw [show b + (ρ 4 - (b + 1) + 1) = ρ 4 by omega]; exact hgd); rw [show b + (ρ 4 - (b + 1) + 1) = ρ 4 by omega] at this; exact this
        refine lv_iload hx hb dX0_tryFrom_41 (lv_at hl 6 rfl) ?_
        refine lv_iload hx hb dX0_tryFrom_43 (lv_at hl 5 rfl) ?_
        refine lv_icmp_gt (tgt := 65) hx hb dX0_tryFrom_45 (by decide) (fun c_4 => ?_) (fun c_4 => ?_)
        · have hdl : lq < d := (mw_lt (by omega) (by omega)).mp c_4
          have hE : FC ρ w mq (ρ 4 - (b + 1)) b cc sv d = FB ρ w mq (ρ 4 - b) b cc sv := by rw [hr1]; exact FC_end (by omega) (fun q h1 h2 => fea_chO h2 (by by_cases hz : w = b + 1; (rw [if_pos hz] at hlq; exact Or.inr ⟨hz, by omega⟩); (rw [if_neg hz] at hlq; exact Or.inl (by omega))))
          exact hret _ _ _ _ _ dX0_tryFrom_65 hw rfl ⟨tk2, bt2, htk2, by rw [← hE]; exact hbt2, by rw [← hE]⟩
        have hdl : d ≤ lq := by have := mt (mw_lt (a := lq) (b := d) (by omega) (by omega)).mpr (by first | exact c_4 | (rw [Int32.not_lt]; exact Int32.not_lt.mp c_4)); omega
        have hdp : d ≤ ρ (22 + 21 * b) + 1 ∧ (w = b + 1 → d = 0) := by by_cases hz : w = b + 1; (rw [if_pos hz] at hlq; exact ⟨by omega, fun _ => by omega⟩); (rw [if_neg hz] at hlq; exact ⟨by omega, fun z => absurd z hz⟩)
        refine lv_aload_n hx hb dX0_tryFrom_48 rfl (lv_at hl 0 rfl) ?_
        refine lv_aload_n hx hb dX0_tryFrom_49 rfl (lv_at hl 1 rfl) ?_
        refine lv_iload_n hx hb dX0_tryFrom_50 rfl (lv_at hl 2 rfl) ?_
        refine lv_iload_n hx hb dX0_tryFrom_51 rfl (lv_at hl 3 rfl) ?_
        refine lv_iload hx hb dX0_tryFrom_52 (lv_at hl 6 rfl) ?_
        refine lv_iload hx hb dX0_tryFrom_54 (lv_at hl 4 rfl) ?_
        refine x_cVV (As := [.ref h, .int (mw w), .int (nI b), .int (mw d), .int (nI sm)]) (k_X0_tryWith_5 l G Y z h lf tk2 bt2 ρ γ w mq b cc sm (FC ρ w mq (ρ 4 - (b + 1)) b cc sv d) d (hI) (hw6) (hfe) (hlf) (fun q hq => (htk2 q hq).trans (htk q hq)) (hbt2) (hgd2) (hsm) (by omega) (by omega) (by omega) (hdp)) cw_X0_44 [0, 1] 0 0 M hK hZ hw hl.1 rfl (by decide) rfl rfl rfl ⟨by decide, by decide⟩ ⟨Nat.zero_le _, Nat.zero_le _⟩ rfl rfl (Nat.le_of_ble_eq_true rfl) dX0_tryFrom_56 (fun sg h_5 H locs hw => ?_)
        obtain ⟨tka6, bta7, hta8, htb9, rfl⟩ := h_5
        have hw : xW G A s.heap [asgW Y z lf tka6 bta7 (mw (FB ρ w mq (ρ 4 - (b + 1)) (b + 1) (5 * cc + d) (FC ρ w mq (ρ 4 - (b + 1)) b cc sv d)).1), aucW Y h ρ γ] H locs := hw
        rw [← FC_1] at hw
        refine lv_iinc (v := ((mw d) + Int32.ofInt (1))) (lv' := [(6, .int ((mw d) + Int32.ofInt (1))), (0, .ref z), (1, .ref h), (2, .int (mw w)), (3, .int (nI b)), (4, .int (nI sm)), (5, .int (mw lq))]) hx hb dX0_tryFrom_59 hl (k := 6) rfl rfl (by decide) rfl (fun ls hl => ?_)
        rw [mw_inc] at hl
        refine lv_goto (tgt := 41) hx hb dX0_tryFrom_62 (by decide) ?_
        exact ih41 (1 + d) tka6 bta7 (by omega) (by omega) (fun q hq => (hta8 q hq).trans (htk2 q hq)) (by rw [FC_1]; exact htb9) _ _ hw _ (lv_sub hl [1, 2, 3, 4, 5, 6, 0] rfl)
    exact L41 (1 + lq - 0 + 1) 0 tk bt (Nat.lt_succ_self _) (by omega) (fun _ _ => rfl) (hbt) _ _ hw _ (lv_sub hl [2, 3, 4, 5, 6, 1, 0] rfl)
  refine lv_iload_n hx hb dX0_tryFrom_21 rfl (lv_at hl 3 rfl) ?_
  refine lv_iload_n hx hb dX0_tryFrom_22 rfl (lv_at hl 2 rfl) ?_
  refine lv_icmp_ne (tgt := 30) hx hb dX0_tryFrom_23 (by decide) (fun c_10 => ?_) (fun c_10 => ?_)
  · have w1_11 : ¬ w = b + 1 := fun z => c_10 ((nI_mw (by omega) (by omega)).mpr z)
    refine lv_aload_n hx hb dX0_tryFrom_30 rfl (lv_at hl 1 rfl) ?_
    refine x_get M hK hw 1 0 rfl rfl ff_X0_41 rfl dX0_tryFrom_31 ?_
    refine lv_iload_n hx hb dX0_tryFrom_34 rfl (lv_at hl 3 rfl) ?_
    refine x_iald M hK hw 1 6 rfl rfl (by omega) (by decide) dX0_tryFrom_35 ?_
    refine x_topN (n := ρ (22 + 21 * b)) (congrArg nI (pck_at (j := b) (by omega) rfl (by omega))) ?_
    have q_12 : ρ (22 + 21 * b) ≤ 3 := hI.pck (j := b) (by omega) (by omega)
    refine x_topI (y := mw (1 + (ρ (22 + 21 * b)))) mwN_1.symm ?_
    exact L36 (1 + (ρ (22 + 21 * b))) (by first | exact (if_pos w1_11).symm | exact (Nat.add_comm _ _).trans (if_neg w1_11).symm) _ _ hw _ (lv_sub hl [0, 1, 2, 3, 4] rfl)
  have w1_13 : w = b + 1 := (nI_mw (by omega) (by omega)).mp c_10
  refine lv_iconst (v := (mw 0)) hx hb dX0_tryFrom_26 (by decide) ?_
  refine lv_goto (tgt := 36) hx hb dX0_tryFrom_27 (by decide) ?_
  exact L36 0 (by first | exact (if_pos w1_13).symm | exact (Nat.add_comm _ _).trans (if_neg w1_13).symm) _ _ hw _ (lv_sub hl [0, 1, 2, 3, 4] rfl)
