theorem inJ {n x lo hi : Nat} (hx : x < 256) (hl : lo < 10) (hh : hi < 10) : inZ (nI x - nI 48).toInt64.toInt (nI lo).toInt64.toInt (nI hi).toInt64.toInt = decide (lo + 48 ≤ x ∧ x ≤ hi + 48) := by
  rw [Int32.toInt_toInt64, Int32.toInt_toInt64, Int32.toInt_toInt64, pk_sub_toInt (by omega) (by decide), nI_toInt (by omega), nI_toInt (by omega)]
  unfold inZ
  congr 1
  apply propext
  omega
theorem inJm {lo hi : Nat} (hl : lo < 10) (hh : hi < 10) : inZ (mw 0).toInt64.toInt (nI lo).toInt64.toInt (nI hi).toInt64.toInt = false := by
  rw [Int32.toInt_toInt64, Int32.toInt_toInt64, Int32.toInt_toInt64, mw_toInt (by decide), nI_toInt (by omega), nI_toInt (by omega)]
  exact decide_eq_false (by omega)
set_option maxHeartbeats 4000000 in
set_option maxRecDepth 20000 in
theorem k_X6_figure (l : Launch) (G : va_G) (Y : Nat → Nat) (mo rf tx sz nw tr dy ac kp ik td ch sp ou : Nat) (lt : Nat → Nat) (lo hi : Nat) (hn : sz ≤ 120) (hlt : ∀ i, i < 120 → lt i < 256) (hlo : lo < 10) (hhi : hi < 10) (hsp : sp ≤ 120) : CtI l yX6_figure cX6_figure 4 .int 1 25 [.ref mo, .int (nI lo), .int (nI hi)] [[(mo, .inr (5, [.int (nI rf), .ref tx, .int (nI sz), .ref nw, .ref tr, .ref dy, .int (nI ac), .ref kp, .ref ik, .ref td, .ref ch, .int (nI sp), .int (nI ou)]))], [(tx, .inl (Y 0, 120, .inl (rowF lt)))]] (fun r sg => ((sp < sz ∧ lo + 48 ≤ lt sp ∧ lt sp ≤ hi + 48) ∧ r = nI (lt sp - 48) ∧ sg = [[(mo, .inr (5, [.int (nI rf), .ref tx, .int (nI sz), .ref nw, .ref tr, .ref dy, .int (nI ac), .ref kp, .ref ik, .ref td, .ref ch, .int (nI (1 + sp)), .int (nI ou)]))], [(tx, .inl (Y 0, 120, .inl (rowF lt)))]]) ∨ (¬ (sp < sz ∧ lo + 48 ≤ lt sp ∧ lt sp ≤ hi + 48) ∧ r = mw 0 ∧ sg = [[(mo, .inr (5, [.int (nI rf), .ref tx, .int (nI sz), .ref nw, .ref tr, .ref dy, .int (nI ac), .ref kp, .ref ik, .ref td, .ref ch, .int (nI sp), .int (nI ou)]))], [(tx, .inl (Y 0, 120, .inl (rowF lt)))]])) G Y := by
  refine x_ofI (by decide) (Nat.le_of_ble_eq_true rfl) (fun p e s m args below meth c A ls Q M hK hZ hw hl hret => ?_)
  obtain ⟨hx, hb, -⟩ := id M
  have hl : lv_has ls 4 [(0, .ref mo), (1, .int (nI lo)), (2, .int (nI hi))] := hl
  refine lv_aload_n hx hb dX6_figure_0 rfl (lv_at hl 0 rfl) ?_
  refine x_get M hK hw 0 0 rfl rfl ff_X6_106 rfl dX6_figure_1 ?_
  refine lv_aload_n hx hb dX6_figure_4 rfl (lv_at hl 0 rfl) ?_
  refine x_get M hK hw 0 0 rfl rfl ff_X6_100 rfl dX6_figure_5 ?_
  refine x_cge M (tgt := 26) (by omega) (by omega) dX6_figure_8 (by decide) (fun c_1 => ?_) (fun c_1 => ?_)
  · refine lv_iconst (v := (mw 0)) hx hb dX6_figure_26 (by decide) ?_
    refine lv_istore_n (lv' := [(3, .int (mw 0)), (0, .ref mo), (1, .int (nI lo)), (2, .int (nI hi))]) hx hb dX6_figure_27 rfl hl (by decide) rfl (fun ls hl => ?_)
    refine lv_iload_n hx hb dX6_figure_28 rfl (lv_at hl 0 rfl) ?_
    refine lv_i2l (v := (mw 0).toInt64) hx hb dX6_figure_29 rfl ?_
    refine lv_iload_n hx hb dX6_figure_30 rfl (lv_at hl 2 rfl) ?_
    refine lv_i2l (v := (nI lo).toInt64) hx hb dX6_figure_31 rfl ?_
    refine lv_iload_n hx hb dX6_figure_32 rfl (lv_at hl 3 rfl) ?_
    refine lv_i2l (v := (nI hi).toInt64) hx hb dX6_figure_33 rfl ?_
    refine x_cSI (As := [.long ((mw 0).toInt64), .long ((nI lo).toInt64), .long ((nI hi).toInt64)]) (k_X6_in l G Y ((mw 0).toInt64) ((nI lo).toInt64) ((nI hi).toInt64)) cw_X6_45 [] M hK hZ hw hl.1 rfl (by decide) ⟨by decide, by decide⟩ ⟨Nat.zero_le _, Nat.zero_le _⟩ rfl rfl (Nat.le_of_ble_eq_true rfl) dX6_figure_34 (fun r sg h_2 H locs hw => ?_)
    obtain ⟨rfl, rfl⟩ := h_2
    have hw : xW G A s.heap [[(mo, .inr (5, [.int (nI rf), .ref tx, .int (nI sz), .ref nw, .ref tr, .ref dy, .int (nI ac), .ref kp, .ref ik, .ref td, .ref ch, .int (nI sp), .int (nI ou)]))], [(tx, .inl (Y 0, 120, .inl (rowF lt)))]] H locs := hw
    refine x_bne M (tgt := 42) dX6_figure_37 (by decide) (fun c_3 => ?_) (fun c_3 => ?_)
    · exact absurd (c_3.symm.trans (inJm hlo hhi)) (by decide)
    refine lv_iconst (v := (mw 0)) hx hb dX6_figure_40 (by decide) ?_
    exact hret _ _ _ (mw 0) _ _ dX6_figure_41 hw rfl rfl (Or.inr ⟨fun z => by have := z.1; omega, rfl, rfl⟩)
  refine lv_aload_n hx hb dX6_figure_11 rfl (lv_at hl 0 rfl) ?_
  refine x_get M hK hw 0 0 rfl rfl ff_X6_7 rfl dX6_figure_12 ?_
  refine lv_aload_n hx hb dX6_figure_15 rfl (lv_at hl 0 rfl) ?_
  refine x_get M hK hw 0 0 rfl rfl ff_X6_106 rfl dX6_figure_16 ?_
  refine x_iald M hK hw 1 0 rfl rfl (by omega) (by decide) dX6_figure_19 ?_
  refine x_topN (n := lt sp) rfl ?_
  have q_4 : lt sp < 256 := hlt sp (by omega)
  refine lv_bipush (v := (nI 48)) hx hb dX6_figure_20 (by decide) ?_
  refine lv_isub hx hb dX6_figure_22 ?_
  refine lv_goto (tgt := 27) hx hb dX6_figure_23 (by decide) ?_
  refine lv_istore_n (lv' := [(3, .int ((nI (lt sp)) - (nI 48))), (0, .ref mo), (1, .int (nI lo)), (2, .int (nI hi))]) hx hb dX6_figure_27 rfl hl (by decide) rfl (fun ls hl => ?_)
  refine lv_iload_n hx hb dX6_figure_28 rfl (lv_at hl 0 rfl) ?_
  refine lv_i2l (v := ((nI (lt sp)) - (nI 48)).toInt64) hx hb dX6_figure_29 rfl ?_
  refine lv_iload_n hx hb dX6_figure_30 rfl (lv_at hl 2 rfl) ?_
  refine lv_i2l (v := (nI lo).toInt64) hx hb dX6_figure_31 rfl ?_
  refine lv_iload_n hx hb dX6_figure_32 rfl (lv_at hl 3 rfl) ?_
  refine lv_i2l (v := (nI hi).toInt64) hx hb dX6_figure_33 rfl ?_
  refine x_cSI (As := [.long (((nI (lt sp)) - (nI 48)).toInt64), .long ((nI lo).toInt64), .long ((nI hi).toInt64)]) (k_X6_in l G Y (((nI (lt sp)) - (nI 48)).toInt64) ((nI lo).toInt64) ((nI hi).toInt64)) cw_X6_45 [] M hK hZ hw hl.1 rfl (by decide) ⟨by decide, by decide⟩ ⟨Nat.zero_le _, Nat.zero_le _⟩ rfl rfl (Nat.le_of_ble_eq_true rfl) dX6_figure_34 (fun r sg h_5 H locs hw => ?_)
  obtain ⟨rfl, rfl⟩ := h_5
  have hw : xW G A s.heap [[(mo, .inr (5, [.int (nI rf), .ref tx, .int (nI sz), .ref nw, .ref tr, .ref dy, .int (nI ac), .ref kp, .ref ik, .ref td, .ref ch, .int (nI sp), .int (nI ou)]))], [(tx, .inl (Y 0, 120, .inl (rowF lt)))]] H locs := hw
  refine x_bne M (tgt := 42) dX6_figure_37 (by decide) (fun c_6 => ?_) (fun c_6 => ?_)
  · have hin := of_decide_eq_true ((inJ (n := 0) (by omega) hlo hhi).symm.trans c_6)
    have e3 : ((nI (lt sp)) - (nI 48)) = nI (lt sp - 48) := pk_sub (by omega)
    rw [e3] at hl
    refine lv_aload_n hx hb dX6_figure_42 rfl (lv_at hl 1 rfl) ?_
    refine lv_dup hx hb dX6_figure_43 rfl ?_
    refine x_get M hK hw 0 0 rfl rfl ff_X6_106 rfl dX6_figure_44 ?_
    refine lv_iconst (v := (nI 1)) hx hb dX6_figure_47 (by decide) ?_
    refine x_iadd M (n := 1 + sp) dX6_figure_48 (by omega) ?_
    refine x_put M hK hw 0 0 rfl rfl fp_X6_106 rfl rfl (Nat.le_of_ble_eq_true rfl) dX6_figure_49 (fun H locs hw => ?_)
    have hw : xW G A s.heap [[(mo, .inr (5, [.int (nI rf), .ref tx, .int (nI sz), .ref nw, .ref tr, .ref dy, .int (nI ac), .ref kp, .ref ik, .ref td, .ref ch, .int (nI (1 + sp)), .int (nI ou)]))], [(tx, .inl (Y 0, 120, .inl (rowF lt)))]] H locs := hw
    refine lv_iload_n hx hb dX6_figure_52 rfl (lv_at hl 0 rfl) ?_
    exact hret _ _ _ (nI (lt sp - 48)) _ _ dX6_figure_53 hw rfl rfl (Or.inl ⟨⟨by omega, hin.1, hin.2⟩, rfl, rfl⟩)
  refine lv_iconst (v := (mw 0)) hx hb dX6_figure_40 (by decide) ?_
  exact hret _ _ _ (mw 0) _ _ dX6_figure_41 hw rfl rfl (Or.inr ⟨fun z => by have := c_6; rw [inJ (n := 0) (by omega) hlo hhi] at this; exact of_decide_eq_false this z.2, rfl, rfl⟩)
set_option maxHeartbeats 4000000 in
set_option maxRecDepth 20000 in
theorem k_X6_figures_0 (l : Launch) (G : va_G) (Y : Nat → Nat) (mo rf tx sz nw tr dy ac kp ik td ch sp ou : Nat) (lt : Nat → Nat) (k : Nat) (hn : sz ≤ 120) (hlt : ∀ i, i < 120 → lt i < 256) (hsp : sp ≤ 120) (hk : k ≤ 3) : CtI l yX6_figures cX6_figures 6 .int 0 0 [.ref mo, .int (mw 0), .int (nI k)] [[(mo, .inr (5, [.int (nI rf), .ref tx, .int (nI sz), .ref nw, .ref tr, .ref dy, .int (nI ac), .ref kp, .ref ik, .ref td, .ref ch, .int (nI sp), .int (nI ou)]))], [(tx, .inl (Y 0, 120, .inl (rowF lt)))]] (fun r sg => r = mw 0 ∧ sg = [[(mo, .inr (5, [.int (nI rf), .ref tx, .int (nI sz), .ref nw, .ref tr, .ref dy, .int (nI ac), .ref kp, .ref ik, .ref td, .ref ch, .int (nI sp), .int (nI ou)]))], [(tx, .inl (Y 0, 120, .inl (rowF lt)))]]) G Y := by
  refine x_ofI (by decide) (Nat.le_of_ble_eq_true rfl) (fun p e s m args below meth c A ls Q M hK hZ hw hl hret => ?_)
  obtain ⟨hx, hb, -⟩ := id M
  have hl : lv_has ls 6 [(0, .ref mo), (1, .int (mw 0)), (2, .int (nI k))] := hl
  refine lv_iload_n hx hb dX6_figures_0 rfl (lv_at hl 1 rfl) ?_
  refine lv_iconst (v := (mw 0)) hx hb dX6_figures_1 (by decide) ?_
  refine lv_icmp_ne (tgt := 9) hx hb dX6_figures_2 (by decide) (fun c_1 => absurd c_1 (fun z => z rfl)) (fun c_1 => ?_)
  refine lv_iconst (v := (mw 0)) hx hb dX6_figures_5 (by decide) ?_
  refine lv_goto (tgt := 10) hx hb dX6_figures_6 (by decide) ?_
  refine lv_istore_n (lv' := [(3, .int (mw 0)), (0, .ref mo), (1, .int (mw 0)), (2, .int (nI k))]) hx hb dX6_figures_10 rfl hl (by decide) rfl (fun ls hl => ?_)
  refine lv_iconst (v := (nI 0)) hx hb dX6_figures_11 (by decide) ?_
  refine lv_istore (lv' := [(4, .int (nI 0)), (3, .int (mw 0)), (0, .ref mo), (1, .int (mw 0)), (2, .int (nI k))]) hx hb dX6_figures_12 hl (by decide) rfl (fun ls hl => ?_)
  refine lv_iload hx hb dX6_figures_14 (lv_at hl 0 rfl) ?_
  refine lv_iload_n hx hb dX6_figures_16 rfl (lv_at hl 4 rfl) ?_
  refine x_cge M (tgt := 58) (by decide) (by omega) dX6_figures_17 (by decide) (fun c_2 => ?_) (fun c_2 => ?_)
  · refine lv_iload_n hx hb dX6_figures_58 rfl (lv_at hl 1 rfl) ?_
    exact hret _ _ _ (mw 0) _ _ dX6_figures_59 hw rfl rfl ⟨rfl, rfl⟩
  refine lv_iload_n hx hb dX6_figures_20 rfl (lv_at hl 1 rfl) ?_
  refine lv_iconst (v := (-1)) hx hb dX6_figures_21 (by decide) ?_
  refine lv_icmp_eq (tgt := 58) hx hb dX6_figures_22 (by decide) (fun c_3 => ?_) (fun c_3 => absurd c_3 (fun z => z rfl))
  refine lv_iload_n hx hb dX6_figures_58 rfl (lv_at hl 1 rfl) ?_
  exact hret _ _ _ (mw 0) _ _ dX6_figures_59 hw rfl rfl ⟨rfl, rfl⟩
set_option maxHeartbeats 4000000 in
set_option maxRecDepth 20000 in
theorem k_X6_figures_1 (l : Launch) (G : va_G) (Y : Nat → Nat) (mo rf tx sz nw tr dy ac kp ik td ch sp ou : Nat) (lt : Nat → Nat) (av : Nat) (hn : sz ≤ 120) (hlt : ∀ i, i < 120 → lt i < 256) (hsp : sp ≤ 120) (hav : av < 2 ^ 31) : CtI l yX6_figures cX6_figures 6 .int 2 48 [.ref mo, .int (nI av), .int (nI 1)] [[(mo, .inr (5, [.int (nI rf), .ref tx, .int (nI sz), .ref nw, .ref tr, .ref dy, .int (nI ac), .ref kp, .ref ik, .ref td, .ref ch, .int (nI sp), .int (nI ou)]))], [(tx, .inl (Y 0, 120, .inl (rowF lt)))]] (fun r sg => ((∀ q, q < 1 → (sp + q < sz ∧ 48 ≤ lt (sp + q) ∧ lt (sp + q) ≤ 57)) ∧ r = nI (numD lt sp 1) ∧ sg = [[(mo, .inr (5, [.int (nI rf), .ref tx, .int (nI sz), .ref nw, .ref tr, .ref dy, .int (nI ac), .ref kp, .ref ik, .ref td, .ref ch, .int (nI (1 + sp)), .int (nI ou)]))], [(tx, .inl (Y 0, 120, .inl (rowF lt)))]]) ∨ (∃ qb, qb < 1 ∧ (∀ q, q < qb → (sp + q < sz ∧ 48 ≤ lt (sp + q) ∧ lt (sp + q) ≤ 57)) ∧ ¬ (sp + qb < sz ∧ 48 ≤ lt (sp + qb) ∧ lt (sp + qb) ≤ 57) ∧ r = mw 0 ∧ sg = [[(mo, .inr (5, [.int (nI rf), .ref tx, .int (nI sz), .ref nw, .ref tr, .ref dy, .int (nI ac), .ref kp, .ref ik, .ref td, .ref ch, .int (nI (sp + qb)), .int (nI ou)]))], [(tx, .inl (Y 0, 120, .inl (rowF lt)))]])) G Y := by
  refine x_ofI (by decide) (Nat.le_of_ble_eq_true rfl) (fun p e s m args below meth c A ls Q M hK hZ hw hl hret => ?_)
  obtain ⟨hx, hb, -⟩ := id M
  have hl : lv_has ls 6 [(0, .ref mo), (1, .int (nI av)), (2, .int (nI 1))] := hl
  refine lv_iload_n hx hb dX6_figures_0 rfl (lv_at hl 1 rfl) ?_
  refine lv_iconst (v := (-1)) hx hb dX6_figures_1 (by decide) ?_
  refine lv_icmp_ne (tgt := 9) hx hb dX6_figures_2 (by decide) (fun c_1 => ?_) (fun c_1 => absurd c_1 (nI_m1 (by omega)))
  refine lv_iconst (v := (nI 0)) hx hb dX6_figures_9 (by decide) ?_
  refine lv_istore_n (lv' := [(3, .int (nI 0)), (0, .ref mo), (1, .int (nI av)), (2, .int (nI 1))]) hx hb dX6_figures_10 rfl hl (by decide) rfl (fun ls hl => ?_)
  refine lv_iconst (v := (nI 0)) hx hb dX6_figures_11 (by decide) ?_
  refine lv_istore (lv' := [(4, .int (nI 0)), (3, .int (nI 0)), (0, .ref mo), (1, .int (nI av)), (2, .int (nI 1))]) hx hb dX6_figures_12 hl (by decide) rfl (fun ls hl => ?_)
  refine lv_iload hx hb dX6_figures_14 (lv_at hl 0 rfl) ?_
  refine lv_iload_n hx hb dX6_figures_16 rfl (lv_at hl 4 rfl) ?_
  refine x_cge M (tgt := 58) (by decide) (by decide) dX6_figures_17 (by decide) (fun c_2 => absurd c_2 (by decide)) (fun c_2 => ?_)
  refine lv_iload_n hx hb dX6_figures_20 rfl (lv_at hl 1 rfl) ?_
  refine lv_iconst (v := (-1)) hx hb dX6_figures_21 (by decide) ?_
  refine lv_icmp_eq (tgt := 58) hx hb dX6_figures_22 (by decide) (fun c_3 => absurd c_3 (nI_m1 (by omega))) (fun c_3 => ?_)
  refine lv_aload_n hx hb dX6_figures_25 rfl (lv_at hl 2 rfl) ?_
  refine lv_iconst (v := (nI 0)) hx hb dX6_figures_26 (by decide) ?_
  refine lv_bipush (v := (nI 9)) hx hb dX6_figures_27 (by decide) ?_
  refine x_cVI (As := [.int (nI 0), .int (nI 9)]) (k_X6_figure l G Y mo rf tx sz nw tr dy ac kp ik td ch sp ou lt 0 9 (by omega) (by omega) (by omega) (by omega) (by omega)) cw_X6_109 [0, 1] 0 0 M hK hZ hw hl.1 rfl (by decide) rfl rfl rfl ⟨by decide, by decide⟩ ⟨Nat.zero_le _, Nat.zero_le _⟩ rfl rfl (Nat.le_of_ble_eq_true rfl) dX6_figures_29 (fun r sg h_4 H locs hw => ?_)
  rcases h_4 with ⟨fc5, rfl, rfl⟩ | ⟨fc6, rfl, rfl⟩
  · have hw : xW G A s.heap [[(mo, .inr (5, [.int (nI rf), .ref tx, .int (nI sz), .ref nw, .ref tr, .ref dy, .int (nI ac), .ref kp, .ref ik, .ref td, .ref ch, .int (nI (1 + sp)), .int (nI ou)]))], [(tx, .inl (Y 0, 120, .inl (rowF lt)))]] H locs := hw
    rw [show (1 + sp) = 1 + sp by omega] at hw
    obtain ⟨_, _, _⟩ := id fc5
    refine lv_istore (lv' := [(5, .int (nI (lt sp - 48))), (4, .int (nI 0)), (3, .int (nI 0)), (0, .ref mo), (1, .int (nI av)), (2, .int (nI 1))]) hx hb dX6_figures_32 hl (by decide) rfl (fun ls hl => ?_)
    refine lv_iload hx hb dX6_figures_34 (lv_at hl 0 rfl) ?_
    refine lv_iconst (v := (-1)) hx hb dX6_figures_36 (by decide) ?_
    refine lv_icmp_ne (tgt := 44) hx hb dX6_figures_37 (by decide) (fun c_7 => ?_) (fun c_7 => absurd c_7 (nI_m1 (by omega)))
    refine lv_bipush (v := (nI 10)) hx hb dX6_figures_44 (by decide) ?_
    refine lv_iload_n hx hb dX6_figures_46 rfl (lv_at hl 2 rfl) ?_
    refine x_imul M (n := 0) dX6_figures_47 rfl ?_
    refine lv_iload hx hb dX6_figures_48 (lv_at hl 0 rfl) ?_
    refine x_iadd M (n := (lt sp - 48)) dX6_figures_50 (by omega) ?_
    refine lv_istore_n (lv' := [(3, .int (nI (lt sp - 48))), (5, .int (nI (lt sp - 48))), (4, .int (nI 0)), (0, .ref mo), (1, .int (nI av)), (2, .int (nI 1))]) hx hb dX6_figures_51 rfl hl (by decide) rfl (fun ls hl => ?_)
    refine lv_iinc (v := (nI 1)) (lv' := [(4, .int (nI 1)), (3, .int (nI (lt sp - 48))), (5, .int (nI (lt sp - 48))), (0, .ref mo), (1, .int (nI av)), (2, .int (nI 1))]) hx hb dX6_figures_52 hl (k := 2) rfl (by decide) (by decide) rfl (fun ls hl => ?_)
    refine lv_goto (tgt := 14) hx hb dX6_figures_55 (by decide) ?_
    refine lv_iload hx hb dX6_figures_14 (lv_at hl 0 rfl) ?_
    refine lv_iload_n hx hb dX6_figures_16 rfl (lv_at hl 5 rfl) ?_
    refine x_cge M (tgt := 58) (by decide) (by decide) dX6_figures_17 (by decide) (fun c_8 => ?_) (fun c_8 => absurd c_8 (by decide))
    refine lv_iload_n hx hb dX6_figures_58 rfl (lv_at hl 1 rfl) ?_
    exact hret _ _ _ (nI (lt sp - 48)) _ _ dX6_figures_59 hw rfl rfl (Or.inl ⟨fun q hq => by rcases (show q = 0 by omega) with rfl; (have h9 := fc5; rw [show sp + 0 = sp from by omega]; exact ⟨h9.1, by omega, by omega⟩), congrArg nI (by rw [numD_1]; try omega), rfl⟩)
  · have hw : xW G A s.heap [[(mo, .inr (5, [.int (nI rf), .ref tx, .int (nI sz), .ref nw, .ref tr, .ref dy, .int (nI ac), .ref kp, .ref ik, .ref td, .ref ch, .int (nI sp), .int (nI ou)]))], [(tx, .inl (Y 0, 120, .inl (rowF lt)))]] H locs := hw
    refine lv_istore (lv' := [(5, .int (mw 0)), (4, .int (nI 0)), (3, .int (nI 0)), (0, .ref mo), (1, .int (nI av)), (2, .int (nI 1))]) hx hb dX6_figures_32 hl (by decide) rfl (fun ls hl => ?_)
    refine lv_iload hx hb dX6_figures_34 (lv_at hl 0 rfl) ?_
    refine lv_iconst (v := (-1)) hx hb dX6_figures_36 (by decide) ?_
    refine lv_icmp_ne (tgt := 44) hx hb dX6_figures_37 (by decide) (fun c_9 => absurd c_9 (fun z => z rfl)) (fun c_9 => ?_)
    refine lv_iconst (v := (mw 0)) hx hb dX6_figures_40 (by decide) ?_
    refine lv_goto (tgt := 51) hx hb dX6_figures_41 (by decide) ?_
    refine lv_istore_n (lv' := [(3, .int (mw 0)), (5, .int (mw 0)), (4, .int (nI 0)), (0, .ref mo), (1, .int (nI av)), (2, .int (nI 1))]) hx hb dX6_figures_51 rfl hl (by decide) rfl (fun ls hl => ?_)
    refine lv_iinc (v := (nI 1)) (lv' := [(4, .int (nI 1)), (3, .int (mw 0)), (5, .int (mw 0)), (0, .ref mo), (1, .int (nI av)), (2, .int (nI 1))]) hx hb dX6_figures_52 hl (k := 2) rfl (by decide) (by decide) rfl (fun ls hl => ?_)
    refine lv_goto (tgt := 14) hx hb dX6_figures_55 (by decide) ?_
    refine lv_iload hx hb dX6_figures_14 (lv_at hl 0 rfl) ?_
    refine lv_iload_n hx hb dX6_figures_16 rfl (lv_at hl 5 rfl) ?_
    refine x_cge M (tgt := 58) (by decide) (by decide) dX6_figures_17 (by decide) (fun c_10 => ?_) (fun c_10 => absurd c_10 (by decide))
    refine lv_iload_n hx hb dX6_figures_58 rfl (lv_at hl 1 rfl) ?_
    exact hret _ _ _ (mw 0) _ _ dX6_figures_59 hw rfl rfl (Or.inr ⟨0, by decide, fun q hq => absurd hq (Nat.not_lt_zero _), fun z => fc6 (by have h8 := z; rw [show sp + 0 = sp from by omega] at h8; exact ⟨h8.1, by omega, by omega⟩), rfl, rfl⟩)
set_option maxHeartbeats 4000000 in
set_option maxRecDepth 20000 in
theorem k_X6_figures_2 (l : Launch) (G : va_G) (Y : Nat → Nat) (mo rf tx sz nw tr dy ac kp ik td ch sp ou : Nat) (lt : Nat → Nat) (av : Nat) (hn : sz ≤ 120) (hlt : ∀ i, i < 120 → lt i < 256) (hsp : sp ≤ 120) (hav : av < 2 ^ 31) : CtI l yX6_figures cX6_figures 6 .int 2 48 [.ref mo, .int (nI av), .int (nI 2)] [[(mo, .inr (5, [.int (nI rf), .ref tx, .int (nI sz), .ref nw, .ref tr, .ref dy, .int (nI ac), .ref kp, .ref ik, .ref td, .ref ch, .int (nI sp), .int (nI ou)]))], [(tx, .inl (Y 0, 120, .inl (rowF lt)))]] (fun r sg => ((∀ q, q < 2 → (sp + q < sz ∧ 48 ≤ lt (sp + q) ∧ lt (sp + q) ≤ 57)) ∧ r = nI (numD lt sp 2) ∧ sg = [[(mo, .inr (5, [.int (nI rf), .ref tx, .int (nI sz), .ref nw, .ref tr, .ref dy, .int (nI ac), .ref kp, .ref ik, .ref td, .ref ch, .int (nI (2 + sp)), .int (nI ou)]))], [(tx, .inl (Y 0, 120, .inl (rowF lt)))]]) ∨ (∃ qb, qb < 2 ∧ (∀ q, q < qb → (sp + q < sz ∧ 48 ≤ lt (sp + q) ∧ lt (sp + q) ≤ 57)) ∧ ¬ (sp + qb < sz ∧ 48 ≤ lt (sp + qb) ∧ lt (sp + qb) ≤ 57) ∧ r = mw 0 ∧ sg = [[(mo, .inr (5, [.int (nI rf), .ref tx, .int (nI sz), .ref nw, .ref tr, .ref dy, .int (nI ac), .ref kp, .ref ik, .ref td, .ref ch, .int (nI (sp + qb)), .int (nI ou)]))], [(tx, .inl (Y 0, 120, .inl (rowF lt)))]])) G Y := by
  refine x_ofI (by decide) (Nat.le_of_ble_eq_true rfl) (fun p e s m args below meth c A ls Q M hK hZ hw hl hret => ?_)
  obtain ⟨hx, hb, -⟩ := id M
  have hl : lv_has ls 6 [(0, .ref mo), (1, .int (nI av)), (2, .int (nI 2))] := hl
  refine lv_iload_n hx hb dX6_figures_0 rfl (lv_at hl 1 rfl) ?_
  refine lv_iconst (v := (-1)) hx hb dX6_figures_1 (by decide) ?_
  refine lv_icmp_ne (tgt := 9) hx hb dX6_figures_2 (by decide) (fun c_1 => ?_) (fun c_1 => absurd c_1 (nI_m1 (by omega)))
  refine lv_iconst (v := (nI 0)) hx hb dX6_figures_9 (by decide) ?_
  refine lv_istore_n (lv' := [(3, .int (nI 0)), (0, .ref mo), (1, .int (nI av)), (2, .int (nI 2))]) hx hb dX6_figures_10 rfl hl (by decide) rfl (fun ls hl => ?_)
  refine lv_iconst (v := (nI 0)) hx hb dX6_figures_11 (by decide) ?_
  refine lv_istore (lv' := [(4, .int (nI 0)), (3, .int (nI 0)), (0, .ref mo), (1, .int (nI av)), (2, .int (nI 2))]) hx hb dX6_figures_12 hl (by decide) rfl (fun ls hl => ?_)
  refine lv_iload hx hb dX6_figures_14 (lv_at hl 0 rfl) ?_
  refine lv_iload_n hx hb dX6_figures_16 rfl (lv_at hl 4 rfl) ?_
  refine x_cge M (tgt := 58) (by decide) (by decide) dX6_figures_17 (by decide) (fun c_2 => absurd c_2 (by decide)) (fun c_2 => ?_)
  refine lv_iload_n hx hb dX6_figures_20 rfl (lv_at hl 1 rfl) ?_
  refine lv_iconst (v := (-1)) hx hb dX6_figures_21 (by decide) ?_
  refine lv_icmp_eq (tgt := 58) hx hb dX6_figures_22 (by decide) (fun c_3 => absurd c_3 (nI_m1 (by omega))) (fun c_3 => ?_)
  refine lv_aload_n hx hb dX6_figures_25 rfl (lv_at hl 2 rfl) ?_
  refine lv_iconst (v := (nI 0)) hx hb dX6_figures_26 (by decide) ?_
  refine lv_bipush (v := (nI 9)) hx hb dX6_figures_27 (by decide) ?_
  refine x_cVI (As := [.int (nI 0), .int (nI 9)]) (k_X6_figure l G Y mo rf tx sz nw tr dy ac kp ik td ch sp ou lt 0 9 (by omega) (by omega) (by omega) (by omega) (by omega)) cw_X6_109 [0, 1] 0 0 M hK hZ hw hl.1 rfl (by decide) rfl rfl rfl ⟨by decide, by decide⟩ ⟨Nat.zero_le _, Nat.zero_le _⟩ rfl rfl (Nat.le_of_ble_eq_true rfl) dX6_figures_29 (fun r sg h_4 H locs hw => ?_)
  rcases h_4 with ⟨fc5, rfl, rfl⟩ | ⟨fc6, rfl, rfl⟩
  · have hw : xW G A s.heap [[(mo, .inr (5, [.int (nI rf), .ref tx, .int (nI sz), .ref nw, .ref tr, .ref dy, .int (nI ac), .ref kp, .ref ik, .ref td, .ref ch, .int (nI (1 + sp)), .int (nI ou)]))], [(tx, .inl (Y 0, 120, .inl (rowF lt)))]] H locs := hw
    rw [show (1 + sp) = 1 + sp by omega] at hw
    obtain ⟨_, _, _⟩ := id fc5
    refine lv_istore (lv' := [(5, .int (nI (lt sp - 48))), (4, .int (nI 0)), (3, .int (nI 0)), (0, .ref mo), (1, .int (nI av)), (2, .int (nI 2))]) hx hb dX6_figures_32 hl (by decide) rfl (fun ls hl => ?_)
    refine lv_iload hx hb dX6_figures_34 (lv_at hl 0 rfl) ?_
    refine lv_iconst (v := (-1)) hx hb dX6_figures_36 (by decide) ?_
    refine lv_icmp_ne (tgt := 44) hx hb dX6_figures_37 (by decide) (fun c_7 => ?_) (fun c_7 => absurd c_7 (nI_m1 (by omega)))
    refine lv_bipush (v := (nI 10)) hx hb dX6_figures_44 (by decide) ?_
    refine lv_iload_n hx hb dX6_figures_46 rfl (lv_at hl 2 rfl) ?_
    refine x_imul M (n := 0) dX6_figures_47 rfl ?_
    refine lv_iload hx hb dX6_figures_48 (lv_at hl 0 rfl) ?_
    refine x_iadd M (n := (lt sp - 48)) dX6_figures_50 (by omega) ?_
    refine lv_istore_n (lv' := [(3, .int (nI (lt sp - 48))), (5, .int (nI (lt sp - 48))), (4, .int (nI 0)), (0, .ref mo), (1, .int (nI av)), (2, .int (nI 2))]) hx hb dX6_figures_51 rfl hl (by decide) rfl (fun ls hl => ?_)
    refine lv_iinc (v := (nI 1)) (lv' := [(4, .int (nI 1)), (3, .int (nI (lt sp - 48))), (5, .int (nI (lt sp - 48))), (0, .ref mo), (1, .int (nI av)), (2, .int (nI 2))]) hx hb dX6_figures_52 hl (k := 2) rfl (by decide) (by decide) rfl (fun ls hl => ?_)
    refine lv_goto (tgt := 14) hx hb dX6_figures_55 (by decide) ?_
    refine lv_iload hx hb dX6_figures_14 (lv_at hl 0 rfl) ?_
    refine lv_iload_n hx hb dX6_figures_16 rfl (lv_at hl 5 rfl) ?_
    refine x_cge M (tgt := 58) (by decide) (by decide) dX6_figures_17 (by decide) (fun c_8 => absurd c_8 (by decide)) (fun c_8 => ?_)
    refine lv_iload_n hx hb dX6_figures_20 rfl (lv_at hl 1 rfl) ?_
    refine lv_iconst (v := (-1)) hx hb dX6_figures_21 (by decide) ?_
    refine lv_icmp_eq (tgt := 58) hx hb dX6_figures_22 (by decide) (fun c_9 => absurd c_9 (nI_m1 (by omega))) (fun c_9 => ?_)
    refine lv_aload_n hx hb dX6_figures_25 rfl (lv_at hl 3 rfl) ?_
    refine lv_iconst (v := (nI 0)) hx hb dX6_figures_26 (by decide) ?_
    refine lv_bipush (v := (nI 9)) hx hb dX6_figures_27 (by decide) ?_
    refine x_cVI (As := [.int (nI 0), .int (nI 9)]) (k_X6_figure l G Y mo rf tx sz nw tr dy ac kp ik td ch (1 + sp) ou lt 0 9 (by omega) (by omega) (by omega) (by omega) (by omega)) cw_X6_109 [0, 1] 0 0 M hK hZ hw hl.1 rfl (by decide) rfl rfl rfl ⟨by decide, by decide⟩ ⟨Nat.zero_le _, Nat.zero_le _⟩ rfl rfl (Nat.le_of_ble_eq_true rfl) dX6_figures_29 (fun r sg h_10 H locs hw => ?_)
    rcases h_10 with ⟨fc11, rfl, rfl⟩ | ⟨fc12, rfl, rfl⟩
    · have hw : xW G A s.heap [[(mo, .inr (5, [.int (nI rf), .ref tx, .int (nI sz), .ref nw, .ref tr, .ref dy, .int (nI ac), .ref kp, .ref ik, .ref td, .ref ch, .int (nI (1 + (1 + sp))), .int (nI ou)]))], [(tx, .inl (Y 0, 120, .inl (rowF lt)))]] H locs := hw
      rw [show (1 + (1 + sp)) = 2 + sp by omega] at hw
      obtain ⟨_, _, _⟩ := id fc11
      refine lv_istore (lv' := [(5, .int (nI (lt (1 + sp) - 48))), (4, .int (nI 1)), (3, .int (nI (lt sp - 48))), (0, .ref mo), (1, .int (nI av)), (2, .int (nI 2))]) hx hb dX6_figures_32 hl (by decide) rfl (fun ls hl => ?_)
      refine lv_iload hx hb dX6_figures_34 (lv_at hl 0 rfl) ?_
      refine lv_iconst (v := (-1)) hx hb dX6_figures_36 (by decide) ?_
      refine lv_icmp_ne (tgt := 44) hx hb dX6_figures_37 (by decide) (fun c_13 => ?_) (fun c_13 => absurd c_13 (nI_m1 (by omega)))
      refine lv_bipush (v := (nI 10)) hx hb dX6_figures_44 (by decide) ?_
      refine lv_iload_n hx hb dX6_figures_46 rfl (lv_at hl 2 rfl) ?_
      refine x_imul M (n := 10 * (lt sp - 48)) dX6_figures_47 (by omega) ?_
      refine lv_iload hx hb dX6_figures_48 (lv_at hl 0 rfl) ?_
      refine x_iadd M (n := 10 * (lt sp - 48) + (lt (1 + sp) - 48)) dX6_figures_50 rfl ?_
      refine lv_istore_n (lv' := [(3, .int (nI (10 * (lt sp - 48) + (lt (1 + sp) - 48)))), (5, .int (nI (lt (1 + sp) - 48))), (4, .int (nI 1)), (0, .ref mo), (1, .int (nI av)), (2, .int (nI 2))]) hx hb dX6_figures_51 rfl hl (by decide) rfl (fun ls hl => ?_)
      refine lv_iinc (v := (nI 2)) (lv' := [(4, .int (nI 2)), (3, .int (nI (10 * (lt sp - 48) + (lt (1 + sp) - 48)))), (5, .int (nI (lt (1 + sp) - 48))), (0, .ref mo), (1, .int (nI av)), (2, .int (nI 2))]) hx hb dX6_figures_52 hl (k := 2) rfl (by decide) (by decide) rfl (fun ls hl => ?_)
      refine lv_goto (tgt := 14) hx hb dX6_figures_55 (by decide) ?_
      refine lv_iload hx hb dX6_figures_14 (lv_at hl 0 rfl) ?_
      refine lv_iload_n hx hb dX6_figures_16 rfl (lv_at hl 5 rfl) ?_
      refine x_cge M (tgt := 58) (by decide) (by decide) dX6_figures_17 (by decide) (fun c_14 => ?_) (fun c_14 => absurd c_14 (by decide))
      refine lv_iload_n hx hb dX6_figures_58 rfl (lv_at hl 1 rfl) ?_
      exact hret _ _ _ (nI (10 * (lt sp - 48) + (lt (1 + sp) - 48))) _ _ dX6_figures_59 hw rfl rfl (Or.inl ⟨fun q hq => by rcases (show q = 0 ∨ q = 1 by omega) with rfl | rfl; (have h9 := fc5; rw [show sp + 0 = sp from by omega]; exact ⟨h9.1, by omega, by omega⟩); (have h9 := fc11; rw [show sp + 1 = 1 + sp from by omega]; exact ⟨h9.1, by omega, by omega⟩), congrArg nI (by rw [numD_2, show sp + 1 = 1 + sp from by omega]; try omega), rfl⟩)
    · have hw : xW G A s.heap [[(mo, .inr (5, [.int (nI rf), .ref tx, .int (nI sz), .ref nw, .ref tr, .ref dy, .int (nI ac), .ref kp, .ref ik, .ref td, .ref ch, .int (nI (1 + sp)), .int (nI ou)]))], [(tx, .inl (Y 0, 120, .inl (rowF lt)))]] H locs := hw
      rw [show (1 + sp) = 1 + sp by omega] at hw
      refine lv_istore (lv' := [(5, .int (mw 0)), (4, .int (nI 1)), (3, .int (nI (lt sp - 48))), (0, .ref mo), (1, .int (nI av)), (2, .int (nI 2))]) hx hb dX6_figures_32 hl (by decide) rfl (fun ls hl => ?_)
      refine lv_iload hx hb dX6_figures_34 (lv_at hl 0 rfl) ?_
      refine lv_iconst (v := (-1)) hx hb dX6_figures_36 (by decide) ?_
      refine lv_icmp_ne (tgt := 44) hx hb dX6_figures_37 (by decide) (fun c_15 => absurd c_15 (fun z => z rfl)) (fun c_15 => ?_)
      refine lv_iconst (v := (mw 0)) hx hb dX6_figures_40 (by decide) ?_
      refine lv_goto (tgt := 51) hx hb dX6_figures_41 (by decide) ?_
      refine lv_istore_n (lv' := [(3, .int (mw 0)), (5, .int (mw 0)), (4, .int (nI 1)), (0, .ref mo), (1, .int (nI av)), (2, .int (nI 2))]) hx hb dX6_figures_51 rfl hl (by decide) rfl (fun ls hl => ?_)
      refine lv_iinc (v := (nI 2)) (lv' := [(4, .int (nI 2)), (3, .int (mw 0)), (5, .int (mw 0)), (0, .ref mo), (1, .int (nI av)), (2, .int (nI 2))]) hx hb dX6_figures_52 hl (k := 2) rfl (by decide) (by decide) rfl (fun ls hl => ?_)
      refine lv_goto (tgt := 14) hx hb dX6_figures_55 (by decide) ?_
      refine lv_iload hx hb dX6_figures_14 (lv_at hl 0 rfl) ?_
      refine lv_iload_n hx hb dX6_figures_16 rfl (lv_at hl 5 rfl) ?_
      refine x_cge M (tgt := 58) (by decide) (by decide) dX6_figures_17 (by decide) (fun c_16 => ?_) (fun c_16 => absurd c_16 (by decide))
      refine lv_iload_n hx hb dX6_figures_58 rfl (lv_at hl 1 rfl) ?_
      rw [show (1 + sp : Nat) = sp + 1 by omega] at hw
      exact hret _ _ _ (mw 0) _ _ dX6_figures_59 hw rfl rfl (Or.inr ⟨1, by decide, fun q hq => by rcases (show q = 0 by omega) with rfl; (have h9 := fc5; rw [show sp + 0 = sp from by omega]; exact ⟨h9.1, by omega, by omega⟩), fun z => fc12 (by have h8 := z; rw [show sp + 1 = 1 + sp from by omega] at h8; exact ⟨h8.1, by omega, by omega⟩), rfl, rfl⟩)
  · have hw : xW G A s.heap [[(mo, .inr (5, [.int (nI rf), .ref tx, .int (nI sz), .ref nw, .ref tr, .ref dy, .int (nI ac), .ref kp, .ref ik, .ref td, .ref ch, .int (nI sp), .int (nI ou)]))], [(tx, .inl (Y 0, 120, .inl (rowF lt)))]] H locs := hw
    refine lv_istore (lv' := [(5, .int (mw 0)), (4, .int (nI 0)), (3, .int (nI 0)), (0, .ref mo), (1, .int (nI av)), (2, .int (nI 2))]) hx hb dX6_figures_32 hl (by decide) rfl (fun ls hl => ?_)
    refine lv_iload hx hb dX6_figures_34 (lv_at hl 0 rfl) ?_
    refine lv_iconst (v := (-1)) hx hb dX6_figures_36 (by decide) ?_
    refine lv_icmp_ne (tgt := 44) hx hb dX6_figures_37 (by decide) (fun c_17 => absurd c_17 (fun z => z rfl)) (fun c_17 => ?_)
    refine lv_iconst (v := (mw 0)) hx hb dX6_figures_40 (by decide) ?_
    refine lv_goto (tgt := 51) hx hb dX6_figures_41 (by decide) ?_
    refine lv_istore_n (lv' := [(3, .int (mw 0)), (5, .int (mw 0)), (4, .int (nI 0)), (0, .ref mo), (1, .int (nI av)), (2, .int (nI 2))]) hx hb dX6_figures_51 rfl hl (by decide) rfl (fun ls hl => ?_)
    refine lv_iinc (v := (nI 1)) (lv' := [(4, .int (nI 1)), (3, .int (mw 0)), (5, .int (mw 0)), (0, .ref mo), (1, .int (nI av)), (2, .int (nI 2))]) hx hb dX6_figures_52 hl (k := 2) rfl (by decide) (by decide) rfl (fun ls hl => ?_)
    refine lv_goto (tgt := 14) hx hb dX6_figures_55 (by decide) ?_
    refine lv_iload hx hb dX6_figures_14 (lv_at hl 0 rfl) ?_
    refine lv_iload_n hx hb dX6_figures_16 rfl (lv_at hl 5 rfl) ?_
    refine x_cge M (tgt := 58) (by decide) (by decide) dX6_figures_17 (by decide) (fun c_18 => absurd c_18 (by decide)) (fun c_18 => ?_)
    refine lv_iload_n hx hb dX6_figures_20 rfl (lv_at hl 1 rfl) ?_
    refine lv_iconst (v := (-1)) hx hb dX6_figures_21 (by decide) ?_
    refine lv_icmp_eq (tgt := 58) hx hb dX6_figures_22 (by decide) (fun c_19 => ?_) (fun c_19 => absurd c_19 (fun z => z rfl))
    refine lv_iload_n hx hb dX6_figures_58 rfl (lv_at hl 1 rfl) ?_
    exact hret _ _ _ (mw 0) _ _ dX6_figures_59 hw rfl rfl (Or.inr ⟨0, by decide, fun q hq => absurd hq (Nat.not_lt_zero _), fun z => fc6 (by have h8 := z; rw [show sp + 0 = sp from by omega] at h8; exact ⟨h8.1, by omega, by omega⟩), rfl, rfl⟩)
set_option maxHeartbeats 4000000 in
set_option maxRecDepth 20000 in
theorem k_X6_figures_3 (l : Launch) (G : va_G) (Y : Nat → Nat) (mo rf tx sz nw tr dy ac kp ik td ch sp ou : Nat) (lt : Nat → Nat) (av : Nat) (hn : sz ≤ 120) (hlt : ∀ i, i < 120 → lt i < 256) (hsp : sp ≤ 120) (hav : av < 2 ^ 31) : CtI l yX6_figures cX6_figures 6 .int 2 48 [.ref mo, .int (nI av), .int (nI 3)] [[(mo, .inr (5, [.int (nI rf), .ref tx, .int (nI sz), .ref nw, .ref tr, .ref dy, .int (nI ac), .ref kp, .ref ik, .ref td, .ref ch, .int (nI sp), .int (nI ou)]))], [(tx, .inl (Y 0, 120, .inl (rowF lt)))]] (fun r sg => ((∀ q, q < 3 → (sp + q < sz ∧ 48 ≤ lt (sp + q) ∧ lt (sp + q) ≤ 57)) ∧ r = nI (numD lt sp 3) ∧ sg = [[(mo, .inr (5, [.int (nI rf), .ref tx, .int (nI sz), .ref nw, .ref tr, .ref dy, .int (nI ac), .ref kp, .ref ik, .ref td, .ref ch, .int (nI (3 + sp)), .int (nI ou)]))], [(tx, .inl (Y 0, 120, .inl (rowF lt)))]]) ∨ (∃ qb, qb < 3 ∧ (∀ q, q < qb → (sp + q < sz ∧ 48 ≤ lt (sp + q) ∧ lt (sp + q) ≤ 57)) ∧ ¬ (sp + qb < sz ∧ 48 ≤ lt (sp + qb) ∧ lt (sp + qb) ≤ 57) ∧ r = mw 0 ∧ sg = [[(mo, .inr (5, [.int (nI rf), .ref tx, .int (nI sz), .ref nw, .ref tr, .ref dy, .int (nI ac), .ref kp, .ref ik, .ref td, .ref ch, .int (nI (sp + qb)), .int (nI ou)]))], [(tx, .inl (Y 0, 120, .inl (rowF lt)))]])) G Y := by
  refine x_ofI (by decide) (Nat.le_of_ble_eq_true rfl) (fun p e s m args below meth c A ls Q M hK hZ hw hl hret => ?_)
  obtain ⟨hx, hb, -⟩ := id M
  have hl : lv_has ls 6 [(0, .ref mo), (1, .int (nI av)), (2, .int (nI 3))] := hl
  refine lv_iload_n hx hb dX6_figures_0 rfl (lv_at hl 1 rfl) ?_
  refine lv_iconst (v := (-1)) hx hb dX6_figures_1 (by decide) ?_
  refine lv_icmp_ne (tgt := 9) hx hb dX6_figures_2 (by decide) (fun c_1 => ?_) (fun c_1 => absurd c_1 (nI_m1 (by omega)))
  refine lv_iconst (v := (nI 0)) hx hb dX6_figures_9 (by decide) ?_
  refine lv_istore_n (lv' := [(3, .int (nI 0)), (0, .ref mo), (1, .int (nI av)), (2, .int (nI 3))]) hx hb dX6_figures_10 rfl hl (by decide) rfl (fun ls hl => ?_)
  refine lv_iconst (v := (nI 0)) hx hb dX6_figures_11 (by decide) ?_
  refine lv_istore (lv' := [(4, .int (nI 0)), (3, .int (nI 0)), (0, .ref mo), (1, .int (nI av)), (2, .int (nI 3))]) hx hb dX6_figures_12 hl (by decide) rfl (fun ls hl => ?_)
  refine lv_iload hx hb dX6_figures_14 (lv_at hl 0 rfl) ?_
  refine lv_iload_n hx hb dX6_figures_16 rfl (lv_at hl 4 rfl) ?_
  refine x_cge M (tgt := 58) (by decide) (by decide) dX6_figures_17 (by decide) (fun c_2 => absurd c_2 (by decide)) (fun c_2 => ?_)
  refine lv_iload_n hx hb dX6_figures_20 rfl (lv_at hl 1 rfl) ?_
  refine lv_iconst (v := (-1)) hx hb dX6_figures_21 (by decide) ?_
  refine lv_icmp_eq (tgt := 58) hx hb dX6_figures_22 (by decide) (fun c_3 => absurd c_3 (nI_m1 (by omega))) (fun c_3 => ?_)
  refine lv_aload_n hx hb dX6_figures_25 rfl (lv_at hl 2 rfl) ?_
  refine lv_iconst (v := (nI 0)) hx hb dX6_figures_26 (by decide) ?_
  refine lv_bipush (v := (nI 9)) hx hb dX6_figures_27 (by decide) ?_
  refine x_cVI (As := [.int (nI 0), .int (nI 9)]) (k_X6_figure l G Y mo rf tx sz nw tr dy ac kp ik td ch sp ou lt 0 9 (by omega) (by omega) (by omega) (by omega) (by omega)) cw_X6_109 [0, 1] 0 0 M hK hZ hw hl.1 rfl (by decide) rfl rfl rfl ⟨by decide, by decide⟩ ⟨Nat.zero_le _, Nat.zero_le _⟩ rfl rfl (Nat.le_of_ble_eq_true rfl) dX6_figures_29 (fun r sg h_4 H locs hw => ?_)
  rcases h_4 with ⟨fc5, rfl, rfl⟩ | ⟨fc6, rfl, rfl⟩
  · have hw : xW G A s.heap [[(mo, .inr (5, [.int (nI rf), .ref tx, .int (nI sz), .ref nw, .ref tr, .ref dy, .int (nI ac), .ref kp, .ref ik, .ref td, .ref ch, .int (nI (1 + sp)), .int (nI ou)]))], [(tx, .inl (Y 0, 120, .inl (rowF lt)))]] H locs := hw
    rw [show (1 + sp) = 1 + sp by omega] at hw
    obtain ⟨_, _, _⟩ := id fc5
    refine lv_istore (lv' := [(5, .int (nI (lt sp - 48))), (4, .int (nI 0)), (3, .int (nI 0)), (0, .ref mo), (1, .int (nI av)), (2, .int (nI 3))]) hx hb dX6_figures_32 hl (by decide) rfl (fun ls hl => ?_)
    refine lv_iload hx hb dX6_figures_34 (lv_at hl 0 rfl) ?_
    refine lv_iconst (v := (-1)) hx hb dX6_figures_36 (by decide) ?_
    refine lv_icmp_ne (tgt := 44) hx hb dX6_figures_37 (by decide) (fun c_7 => ?_) (fun c_7 => absurd c_7 (nI_m1 (by omega)))
    refine lv_bipush (v := (nI 10)) hx hb dX6_figures_44 (by decide) ?_
    refine lv_iload_n hx hb dX6_figures_46 rfl (lv_at hl 2 rfl) ?_
    refine x_imul M (n := 0) dX6_figures_47 rfl ?_
    refine lv_iload hx hb dX6_figures_48 (lv_at hl 0 rfl) ?_
    refine x_iadd M (n := (lt sp - 48)) dX6_figures_50 (by omega) ?_
    refine lv_istore_n (lv' := [(3, .int (nI (lt sp - 48))), (5, .int (nI (lt sp - 48))), (4, .int (nI 0)), (0, .ref mo), (1, .int (nI av)), (2, .int (nI 3))]) hx hb dX6_figures_51 rfl hl (by decide) rfl (fun ls hl => ?_)
    refine lv_iinc (v := (nI 1)) (lv' := [(4, .int (nI 1)), (3, .int (nI (lt sp - 48))), (5, .int (nI (lt sp - 48))), (0, .ref mo), (1, .int (nI av)), (2, .int (nI 3))]) hx hb dX6_figures_52 hl (k := 2) rfl (by decide) (by decide) rfl (fun ls hl => ?_)
    refine lv_goto (tgt := 14) hx hb dX6_figures_55 (by decide) ?_
    refine lv_iload hx hb dX6_figures_14 (lv_at hl 0 rfl) ?_
    refine lv_iload_n hx hb dX6_figures_16 rfl (lv_at hl 5 rfl) ?_
    refine x_cge M (tgt := 58) (by decide) (by decide) dX6_figures_17 (by decide) (fun c_8 => absurd c_8 (by decide)) (fun c_8 => ?_)
    refine lv_iload_n hx hb dX6_figures_20 rfl (lv_at hl 1 rfl) ?_
    refine lv_iconst (v := (-1)) hx hb dX6_figures_21 (by decide) ?_
    refine lv_icmp_eq (tgt := 58) hx hb dX6_figures_22 (by decide) (fun c_9 => absurd c_9 (nI_m1 (by omega))) (fun c_9 => ?_)
    refine lv_aload_n hx hb dX6_figures_25 rfl (lv_at hl 3 rfl) ?_
    refine lv_iconst (v := (nI 0)) hx hb dX6_figures_26 (by decide) ?_
    refine lv_bipush (v := (nI 9)) hx hb dX6_figures_27 (by decide) ?_
    refine x_cVI (As := [.int (nI 0), .int (nI 9)]) (k_X6_figure l G Y mo rf tx sz nw tr dy ac kp ik td ch (1 + sp) ou lt 0 9 (by omega) (by omega) (by omega) (by omega) (by omega)) cw_X6_109 [0, 1] 0 0 M hK hZ hw hl.1 rfl (by decide) rfl rfl rfl ⟨by decide, by decide⟩ ⟨Nat.zero_le _, Nat.zero_le _⟩ rfl rfl (Nat.le_of_ble_eq_true rfl) dX6_figures_29 (fun r sg h_10 H locs hw => ?_)
    rcases h_10 with ⟨fc11, rfl, rfl⟩ | ⟨fc12, rfl, rfl⟩
    · have hw : xW G A s.heap [[(mo, .inr (5, [.int (nI rf), .ref tx, .int (nI sz), .ref nw, .ref tr, .ref dy, .int (nI ac), .ref kp, .ref ik, .ref td, .ref ch, .int (nI (1 + (1 + sp))), .int (nI ou)]))], [(tx, .inl (Y 0, 120, .inl (rowF lt)))]] H locs := hw
      rw [show (1 + (1 + sp)) = 2 + sp by omega] at hw
      obtain ⟨_, _, _⟩ := id fc11
      refine lv_istore (lv' := [(5, .int (nI (lt (1 + sp) - 48))), (4, .int (nI 1)), (3, .int (nI (lt sp - 48))), (0, .ref mo), (1, .int (nI av)), (2, .int (nI 3))]) hx hb dX6_figures_32 hl (by decide) rfl (fun ls hl => ?_)
      refine lv_iload hx hb dX6_figures_34 (lv_at hl 0 rfl) ?_
      refine lv_iconst (v := (-1)) hx hb dX6_figures_36 (by decide) ?_
      refine lv_icmp_ne (tgt := 44) hx hb dX6_figures_37 (by decide) (fun c_13 => ?_) (fun c_13 => absurd c_13 (nI_m1 (by omega)))
      refine lv_bipush (v := (nI 10)) hx hb dX6_figures_44 (by decide) ?_
      refine lv_iload_n hx hb dX6_figures_46 rfl (lv_at hl 2 rfl) ?_
      refine x_imul M (n := 10 * (lt sp - 48)) dX6_figures_47 (by omega) ?_
      refine lv_iload hx hb dX6_figures_48 (lv_at hl 0 rfl) ?_
      refine x_iadd M (n := 10 * (lt sp - 48) + (lt (1 + sp) - 48)) dX6_figures_50 rfl ?_
      refine lv_istore_n (lv' := [(3, .int (nI (10 * (lt sp - 48) + (lt (1 + sp) - 48)))), (5, .int (nI (lt (1 + sp) - 48))), (4, .int (nI 1)), (0, .ref mo), (1, .int (nI av)), (2, .int (nI 3))]) hx hb dX6_figures_51 rfl hl (by decide) rfl (fun ls hl => ?_)
      refine lv_iinc (v := (nI 2)) (lv' := [(4, .int (nI 2)), (3, .int (nI (10 * (lt sp - 48) + (lt (1 + sp) - 48)))), (5, .int (nI (lt (1 + sp) - 48))), (0, .ref mo), (1, .int (nI av)), (2, .int (nI 3))]) hx hb dX6_figures_52 hl (k := 2) rfl (by decide) (by decide) rfl (fun ls hl => ?_)
      refine lv_goto (tgt := 14) hx hb dX6_figures_55 (by decide) ?_
      refine lv_iload hx hb dX6_figures_14 (lv_at hl 0 rfl) ?_
      refine lv_iload_n hx hb dX6_figures_16 rfl (lv_at hl 5 rfl) ?_
      refine x_cge M (tgt := 58) (by decide) (by decide) dX6_figures_17 (by decide) (fun c_14 => absurd c_14 (by decide)) (fun c_14 => ?_)
      refine lv_iload_n hx hb dX6_figures_20 rfl (lv_at hl 1 rfl) ?_
      refine lv_iconst (v := (-1)) hx hb dX6_figures_21 (by decide) ?_
      refine lv_icmp_eq (tgt := 58) hx hb dX6_figures_22 (by decide) (fun c_15 => absurd c_15 (nI_m1 (by omega))) (fun c_15 => ?_)
      refine lv_aload_n hx hb dX6_figures_25 rfl (lv_at hl 3 rfl) ?_
      refine lv_iconst (v := (nI 0)) hx hb dX6_figures_26 (by decide) ?_
      refine lv_bipush (v := (nI 9)) hx hb dX6_figures_27 (by decide) ?_
      refine x_cVI (As := [.int (nI 0), .int (nI 9)]) (k_X6_figure l G Y mo rf tx sz nw tr dy ac kp ik td ch (2 + sp) ou lt 0 9 (by omega) (by omega) (by omega) (by omega) (by omega)) cw_X6_109 [0, 1] 0 0 M hK hZ hw hl.1 rfl (by decide) rfl rfl rfl ⟨by decide, by decide⟩ ⟨Nat.zero_le _, Nat.zero_le _⟩ rfl rfl (Nat.le_of_ble_eq_true rfl) dX6_figures_29 (fun r sg h_16 H locs hw => ?_)
      rcases h_16 with ⟨fc17, rfl, rfl⟩ | ⟨fc18, rfl, rfl⟩
      · have hw : xW G A s.heap [[(mo, .inr (5, [.int (nI rf), .ref tx, .int (nI sz), .ref nw, .ref tr, .ref dy, .int (nI ac), .ref kp, .ref ik, .ref td, .ref ch, .int (nI (1 + (2 + sp))), .int (nI ou)]))], [(tx, .inl (Y 0, 120, .inl (rowF lt)))]] H locs := hw
        rw [show (1 + (2 + sp)) = 3 + sp by omega] at hw
        obtain ⟨_, _, _⟩ := id fc17
        refine lv_istore (lv' := [(5, .int (nI (lt (2 + sp) - 48))), (4, .int (nI 2)), (3, .int (nI (10 * (lt sp - 48) + (lt (1 + sp) - 48)))), (0, .ref mo), (1, .int (nI av)), (2, .int (nI 3))]) hx hb dX6_figures_32 hl (by decide) rfl (fun ls hl => ?_)
        refine lv_iload hx hb dX6_figures_34 (lv_at hl 0 rfl) ?_
        refine lv_iconst (v := (-1)) hx hb dX6_figures_36 (by decide) ?_
        refine lv_icmp_ne (tgt := 44) hx hb dX6_figures_37 (by decide) (fun c_19 => ?_) (fun c_19 => absurd c_19 (nI_m1 (by omega)))
        refine lv_bipush (v := (nI 10)) hx hb dX6_figures_44 (by decide) ?_
        refine lv_iload_n hx hb dX6_figures_46 rfl (lv_at hl 2 rfl) ?_
        refine x_imul M (n := 100 * (lt sp - 48) + 10 * (lt (1 + sp) - 48)) dX6_figures_47 (by omega) ?_
        refine lv_iload hx hb dX6_figures_48 (lv_at hl 0 rfl) ?_
        refine x_iadd M (n := 100 * (lt sp - 48) + 10 * (lt (1 + sp) - 48) + (lt (2 + sp) - 48)) dX6_figures_50 rfl ?_
        refine lv_istore_n (lv' := [(3, .int (nI (100 * (lt sp - 48) + 10 * (lt (1 + sp) - 48) + (lt (2 + sp) - 48)))), (5, .int (nI (lt (2 + sp) - 48))), (4, .int (nI 2)), (0, .ref mo), (1, .int (nI av)), (2, .int (nI 3))]) hx hb dX6_figures_51 rfl hl (by decide) rfl (fun ls hl => ?_)
        refine lv_iinc (v := (nI 3)) (lv' := [(4, .int (nI 3)), (3, .int (nI (100 * (lt sp - 48) + 10 * (lt (1 + sp) - 48) + (lt (2 + sp) - 48)))), (5, .int (nI (lt (2 + sp) - 48))), (0, .ref mo), (1, .int (nI av)), (2, .int (nI 3))]) hx hb dX6_figures_52 hl (k := 2) rfl (by decide) (by decide) rfl (fun ls hl => ?_)
        refine lv_goto (tgt := 14) hx hb dX6_figures_55 (by decide) ?_
        refine lv_iload hx hb dX6_figures_14 (lv_at hl 0 rfl) ?_
        refine lv_iload_n hx hb dX6_figures_16 rfl (lv_at hl 5 rfl) ?_
        refine x_cge M (tgt := 58) (by decide) (by decide) dX6_figures_17 (by decide) (fun c_20 => ?_) (fun c_20 => absurd c_20 (by decide))
        refine lv_iload_n hx hb dX6_figures_58 rfl (lv_at hl 1 rfl) ?_
        exact hret _ _ _ (nI (100 * (lt sp - 48) + 10 * (lt (1 + sp) - 48) + (lt (2 + sp) - 48))) _ _ dX6_figures_59 hw rfl rfl (Or.inl ⟨fun q hq => by rcases (show q = 0 ∨ q = 1 ∨ q = 2 by omega) with rfl | rfl | rfl; (have h9 := fc5; rw [show sp + 0 = sp from by omega]; exact ⟨h9.1, by omega, by omega⟩); (have h9 := fc11; rw [show sp + 1 = 1 + sp from by omega]; exact ⟨h9.1, by omega, by omega⟩); (have h9 := fc17; rw [show sp + 2 = 2 + sp from by omega]; exact ⟨h9.1, by omega, by omega⟩), congrArg nI (by rw [numD_3, show sp + 1 = 1 + sp from by omega, show sp + 2 = 2 + sp from by omega]; try omega), rfl⟩)
      · have hw : xW G A s.heap [[(mo, .inr (5, [.int (nI rf), .ref tx, .int (nI sz), .ref nw, .ref tr, .ref dy, .int (nI ac), .ref kp, .ref ik, .ref td, .ref ch, .int (nI (2 + sp)), .int (nI ou)]))], [(tx, .inl (Y 0, 120, .inl (rowF lt)))]] H locs := hw
        rw [show (2 + sp) = 2 + sp by omega] at hw
        refine lv_istore (lv' := [(5, .int (mw 0)), (4, .int (nI 2)), (3, .int (nI (10 * (lt sp - 48) + (lt (1 + sp) - 48)))), (0, .ref mo), (1, .int (nI av)), (2, .int (nI 3))]) hx hb dX6_figures_32 hl (by decide) rfl (fun ls hl => ?_)
        refine lv_iload hx hb dX6_figures_34 (lv_at hl 0 rfl) ?_
        refine lv_iconst (v := (-1)) hx hb dX6_figures_36 (by decide) ?_
        refine lv_icmp_ne (tgt := 44) hx hb dX6_figures_37 (by decide) (fun c_21 => absurd c_21 (fun z => z rfl)) (fun c_21 => ?_)
        refine lv_iconst (v := (mw 0)) hx hb dX6_figures_40 (by decide) ?_
        refine lv_goto (tgt := 51) hx hb dX6_figures_41 (by decide) ?_
        refine lv_istore_n (lv' := [(3, .int (mw 0)), (5, .int (mw 0)), (4, .int (nI 2)), (0, .ref mo), (1, .int (nI av)), (2, .int (nI 3))]) hx hb dX6_figures_51 rfl hl (by decide) rfl (fun ls hl => ?_)
        refine lv_iinc (v := (nI 3)) (lv' := [(4, .int (nI 3)), (3, .int (mw 0)), (5, .int (mw 0)), (0, .ref mo), (1, .int (nI av)), (2, .int (nI 3))]) hx hb dX6_figures_52 hl (k := 2) rfl (by decide) (by decide) rfl (fun ls hl => ?_)
        refine lv_goto (tgt := 14) hx hb dX6_figures_55 (by decide) ?_
        refine lv_iload hx hb dX6_figures_14 (lv_at hl 0 rfl) ?_
        refine lv_iload_n hx hb dX6_figures_16 rfl (lv_at hl 5 rfl) ?_
        refine x_cge M (tgt := 58) (by decide) (by decide) dX6_figures_17 (by decide) (fun c_22 => ?_) (fun c_22 => absurd c_22 (by decide))
        refine lv_iload_n hx hb dX6_figures_58 rfl (lv_at hl 1 rfl) ?_
        rw [show (2 + sp : Nat) = sp + 2 by omega] at hw
        exact hret _ _ _ (mw 0) _ _ dX6_figures_59 hw rfl rfl (Or.inr ⟨2, by decide, fun q hq => by rcases (show q = 0 ∨ q = 1 by omega) with rfl | rfl; (have h9 := fc5; rw [show sp + 0 = sp from by omega]; exact ⟨h9.1, by omega, by omega⟩); (have h9 := fc11; rw [show sp + 1 = 1 + sp from by omega]; exact ⟨h9.1, by omega, by omega⟩), fun z => fc18 (by have h8 := z; rw [show sp + 2 = 2 + sp from by omega] at h8; exact ⟨h8.1, by omega, by omega⟩), rfl, rfl⟩)
    · have hw : xW G A s.heap [[(mo, .inr (5, [.int (nI rf), .ref tx, .int (nI sz), .ref nw, .ref tr, .ref dy, .int (nI ac), .ref kp, .ref ik, .ref td, .ref ch, .int (nI (1 + sp)), .int (nI ou)]))], [(tx, .inl (Y 0, 120, .inl (rowF lt)))]] H locs := hw
      rw [show (1 + sp) = 1 + sp by omega] at hw
      refine lv_istore (lv' := [(5, .int (mw 0)), (4, .int (nI 1)), (3, .int (nI (lt sp - 48))), (0, .ref mo), (1, .int (nI av)), (2, .int (nI 3))]) hx hb dX6_figures_32 hl (by decide) rfl (fun ls hl => ?_)
      refine lv_iload hx hb dX6_figures_34 (lv_at hl 0 rfl) ?_
      refine lv_iconst (v := (-1)) hx hb dX6_figures_36 (by decide) ?_
      refine lv_icmp_ne (tgt := 44) hx hb dX6_figures_37 (by decide) (fun c_23 => absurd c_23 (fun z => z rfl)) (fun c_23 => ?_)
      refine lv_iconst (v := (mw 0)) hx hb dX6_figures_40 (by decide) ?_
      refine lv_goto (tgt := 51) hx hb dX6_figures_41 (by decide) ?_
      refine lv_istore_n (lv' := [(3, .int (mw 0)), (5, .int (mw 0)), (4, .int (nI 1)), (0, .ref mo), (1, .int (nI av)), (2, .int (nI 3))]) hx hb dX6_figures_51 rfl hl (by decide) rfl (fun ls hl => ?_)
      refine lv_iinc (v := (nI 2)) (lv' := [(4, .int (nI 2)), (3, .int (mw 0)), (5, .int (mw 0)), (0, .ref mo), (1, .int (nI av)), (2, .int (nI 3))]) hx hb dX6_figures_52 hl (k := 2) rfl (by decide) (by decide) rfl (fun ls hl => ?_)
      refine lv_goto (tgt := 14) hx hb dX6_figures_55 (by decide) ?_
      refine lv_iload hx hb dX6_figures_14 (lv_at hl 0 rfl) ?_
      refine lv_iload_n hx hb dX6_figures_16 rfl (lv_at hl 5 rfl) ?_
      refine x_cge M (tgt := 58) (by decide) (by decide) dX6_figures_17 (by decide) (fun c_24 => absurd c_24 (by decide)) (fun c_24 => ?_)
      refine lv_iload_n hx hb dX6_figures_20 rfl (lv_at hl 1 rfl) ?_
      refine lv_iconst (v := (-1)) hx hb dX6_figures_21 (by decide) ?_
      refine lv_icmp_eq (tgt := 58) hx hb dX6_figures_22 (by decide) (fun c_25 => ?_) (fun c_25 => absurd c_25 (fun z => z rfl))
      refine lv_iload_n hx hb dX6_figures_58 rfl (lv_at hl 1 rfl) ?_
      rw [show (1 + sp : Nat) = sp + 1 by omega] at hw
      exact hret _ _ _ (mw 0) _ _ dX6_figures_59 hw rfl rfl (Or.inr ⟨1, by decide, fun q hq => by rcases (show q = 0 by omega) with rfl; (have h9 := fc5; rw [show sp + 0 = sp from by omega]; exact ⟨h9.1, by omega, by omega⟩), fun z => fc12 (by have h8 := z; rw [show sp + 1 = 1 + sp from by omega] at h8; exact ⟨h8.1, by omega, by omega⟩), rfl, rfl⟩)
  · have hw : xW G A s.heap [[(mo, .inr (5, [.int (nI rf), .ref tx, .int (nI sz), .ref nw, .ref tr, .ref dy, .int (nI ac), .ref kp, .ref ik, .ref td, .ref ch, .int (nI sp), .int (nI ou)]))], [(tx, .inl (Y 0, 120, .inl (rowF lt)))]] H locs := hw
    refine lv_istore (lv' := [(5, .int (mw 0)), (4, .int (nI 0)), (3, .int (nI 0)), (0, .ref mo), (1, .int (nI av)), (2, .int (nI 3))]) hx hb dX6_figures_32 hl (by decide) rfl (fun ls hl => ?_)
    refine lv_iload hx hb dX6_figures_34 (lv_at hl 0 rfl) ?_
    refine lv_iconst (v := (-1)) hx hb dX6_figures_36 (by decide) ?_
    refine lv_icmp_ne (tgt := 44) hx hb dX6_figures_37 (by decide) (fun c_26 => absurd c_26 (fun z => z rfl)) (fun c_26 => ?_)
    refine lv_iconst (v := (mw 0)) hx hb dX6_figures_40 (by decide) ?_
    refine lv_goto (tgt := 51) hx hb dX6_figures_41 (by decide) ?_
    refine lv_istore_n (lv' := [(3, .int (mw 0)), (5, .int (mw 0)), (4, .int (nI 0)), (0, .ref mo), (1, .int (nI av)), (2, .int (nI 3))]) hx hb dX6_figures_51 rfl hl (by decide) rfl (fun ls hl => ?_)
    refine lv_iinc (v := (nI 1)) (lv' := [(4, .int (nI 1)), (3, .int (mw 0)), (5, .int (mw 0)), (0, .ref mo), (1, .int (nI av)), (2, .int (nI 3))]) hx hb dX6_figures_52 hl (k := 2) rfl (by decide) (by decide) rfl (fun ls hl => ?_)
    refine lv_goto (tgt := 14) hx hb dX6_figures_55 (by decide) ?_
    refine lv_iload hx hb dX6_figures_14 (lv_at hl 0 rfl) ?_
    refine lv_iload_n hx hb dX6_figures_16 rfl (lv_at hl 5 rfl) ?_
    refine x_cge M (tgt := 58) (by decide) (by decide) dX6_figures_17 (by decide) (fun c_27 => absurd c_27 (by decide)) (fun c_27 => ?_)
    refine lv_iload_n hx hb dX6_figures_20 rfl (lv_at hl 1 rfl) ?_
    refine lv_iconst (v := (-1)) hx hb dX6_figures_21 (by decide) ?_
    refine lv_icmp_eq (tgt := 58) hx hb dX6_figures_22 (by decide) (fun c_28 => ?_) (fun c_28 => absurd c_28 (fun z => z rfl))
    refine lv_iload_n hx hb dX6_figures_58 rfl (lv_at hl 1 rfl) ?_
    exact hret _ _ _ (mw 0) _ _ dX6_figures_59 hw rfl rfl (Or.inr ⟨0, by decide, fun q hq => absurd hq (Nat.not_lt_zero _), fun z => fc6 (by have h8 := z; rw [show sp + 0 = sp from by omega] at h8; exact ⟨h8.1, by omega, by omega⟩), rfl, rfl⟩)
