set_option maxHeartbeats 4000000 in
set_option maxRecDepth 20000 in
theorem k_X5_runScript (l : Launch) (G : va_G) (Y : Nat → Nat) (xo h0 h1 hh sl sv tz az : Nat) (n sn : Nat) (ρ : Nat → Nat) (γ : Nat → Nat → Nat) (κ : Nat → Nat) (γ1 : Nat → Nat → Nat) (hI : Inv ρ) (hs : (n = 1 ∧ sn < 100000) ∨ (n = 2 ∧ sn < 10000000000) ∨ (n = 3 ∧ sn < 1000000000000000)) : CtI l yX5_runScript cX5_runScript 7 .int 6 140 [.ref xo, .int (nI n), .long (lN sn)] [[(xo, .inr (4, [.ref h0, .ref h1, .ref hh, .ref sl, .ref sv, .ref tz, .ref az]))], aucW Y h0 ρ γ, aucW Y h1 κ γ1] (fun r sg => r = rsV ρ n sn ∧ ∃ (κ' : Nat → Nat) (γ' : Nat → Nat → Nat), sg = [[(xo, .inr (4, [.ref h0, .ref h1, .ref hh, .ref sl, .ref sv, .ref tz, .ref az]))], aucW Y h0 ρ γ, aucW Y h1 κ' γ']) G Y := by
  refine x_ofI (by decide) (Nat.le_of_ble_eq_true rfl) (fun p e s m args below meth c A ls Q M hK hZ hw hl hret => ?_)
  obtain ⟨hx, hb, -⟩ := id M
  have hl : lv_has ls 7 [(0, .ref xo), (1, .int (nI n)), (2, .long (lN sn))] := hl
  have := hI.n6
  have := hI.over
  have := hI.keep
  have := hI.stepp
  rcases hs with ⟨rfl, hs⟩ | ⟨rfl, hs⟩ | ⟨rfl, hs⟩
  · refine lv_iload_n hx hb dX5_runScript_0 rfl (lv_at hl 1 rfl) ?_
    refine lv_iconst (v := (nI 1)) hx hb dX5_runScript_1 (by decide) ?_
    refine lv_iconst (v := (nI 3)) hx hb dX5_runScript_2 (by decide) ?_
    refine x_cSI (As := [.int (nI 1), .int (nI 1), .int (nI 3)]) (k_X5_outside l G Y (nI 1) (nI 1) (nI 3)) cw_X5_48 [] M hK hZ hw hl.1 rfl (by decide) ⟨by decide, by decide⟩ ⟨Nat.zero_le _, Nat.zero_le _⟩ rfl rfl (Nat.le_of_ble_eq_true rfl) dX5_runScript_3 (fun r sg h_1 H locs hw => ?_)
    obtain ⟨rfl, rfl⟩ := h_1
    have hw : xW G A s.heap [[(xo, .inr (4, [.ref h0, .ref h1, .ref hh, .ref sl, .ref sv, .ref tz, .ref az]))], aucW Y h0 ρ γ, aucW Y h1 κ γ1] H locs := hw
    refine x_beq M (tgt := 20) dX5_runScript_6 (by decide) (fun c_2 => ?_) (fun c_2 => absurd c_2 (fun z => nzT (a := 1) (b := 3) (n := 1) z (by decide) ⟨by decide, by decide⟩))
    refine lv_lconst (v := 1) hx hb dX5_runScript_20 (by decide) ?_
    refine x_topL (y := (lN 1)) rfl ?_
    refine lv_lstore (lv' := [(4, .long (lN 1)), (0, .ref xo), (1, .int (nI 1)), (2, .long (lN sn))]) hx hb dX5_runScript_21 hl (by decide) rfl (fun ls hl => ?_)
    refine lv_iconst (v := (nI 1)) hx hb dX5_runScript_23 (by decide) ?_
    refine lv_istore (lv' := [(6, .int (nI 1)), (4, .long (lN 1)), (0, .ref xo), (1, .int (nI 1)), (2, .long (lN sn))]) hx hb dX5_runScript_24 hl (by decide) rfl (fun ls hl => ?_)
    refine lv_iload hx hb dX5_runScript_26 (lv_at hl 0 rfl) ?_
    refine lv_iload_n hx hb dX5_runScript_28 rfl (lv_at hl 3 rfl) ?_
    refine x_cge M (tgt := 46) (by decide) (by decide) dX5_runScript_29 (by decide) (fun c_3 => ?_) (fun c_3 => absurd c_3 (by decide))
    refine lv_lload_n hx hb dX5_runScript_46 rfl (lv_at hl 4 rfl) ?_
    refine lv_lconst (v := 0) hx hb dX5_runScript_47 (by decide) ?_
    refine W.lcmp hx hb dX5_runScript_48 ?_
    refine lv_if_lt (tgt := 63) hx hb dX5_runScript_49 (by decide) (fun c_4 => absurd c_4 (lN_cmp0 (by omega))) (fun c_4 => ?_)
    refine lv_lload_n hx hb dX5_runScript_52 rfl (lv_at hl 4 rfl) ?_
    refine lv_ldc2 (v := 100000) hx hb M.2.2.2.1 (M.2.2.2.2 _ mw_257) dX5_runScript_53 ?_
    refine lv_ldiv hx hb dX5_runScript_56 (by decide) ?_
    refine x_topL (y := (lN (sn / 100000))) (lN_div (b := 100000) (by omega) (by decide)) ?_
    refine lv_lload hx hb dX5_runScript_57 (lv_at hl 1 rfl) ?_
    refine W.lcmp hx hb dX5_runScript_59 ?_
    refine lv_if_lt (tgt := 74) hx hb dX5_runScript_60 (by decide) (fun c_5 => ?_) (fun c_5 => absurd c_5 (fun z => z (lN_cmp (by omega) (by omega))))
    refine lv_aload_n hx hb dX5_runScript_74 rfl (lv_at hl 2 rfl) ?_
    refine x_get M hK hw 0 0 rfl rfl ff_X5_16 rfl dX5_runScript_75 ?_
    refine lv_aload_n hx hb dX5_runScript_78 rfl (lv_at hl 2 rfl) ?_
    refine x_get M hK hw 0 0 rfl rfl ff_X5_10 rfl dX5_runScript_79 ?_
    refine x_cVV (As := [.ref h0]) (k_X1_become l G Y h1 h0 κ γ1 ρ γ (hI)) cw_X5_260 [2, 1] 2 0 M hK hZ hw hl.1 rfl (by decide) rfl rfl rfl ⟨by decide, by decide⟩ ⟨Nat.zero_le _, Nat.zero_le _⟩ rfl rfl (Nat.le_of_ble_eq_true rfl) dX5_runScript_82 (fun sg h_6 H locs hw => ?_)
    obtain rfl := h_6
    have hw : xW G A s.heap [[(xo, .inr (4, [.ref h0, .ref h1, .ref hh, .ref sl, .ref sv, .ref tz, .ref az]))], aucW Y h0 ρ γ, aucW Y h1 ρ γ] H locs := hw
    refine lv_iconst (v := (nI 0)) hx hb dX5_runScript_85 (by decide) ?_
    refine lv_istore (lv' := [(6, .int (nI 0)), (4, .long (lN 1)), (0, .ref xo), (1, .int (nI 1)), (2, .long (lN sn))]) hx hb dX5_runScript_86 hl (by decide) rfl (fun ls hl => ?_)
    refine lv_iload hx hb dX5_runScript_88 (lv_at hl 0 rfl) ?_
    refine lv_iload_n hx hb dX5_runScript_90 rfl (lv_at hl 3 rfl) ?_
    refine x_cge M (tgt := 137) (by decide) (by decide) dX5_runScript_91 (by decide) (fun c_7 => absurd c_7 (by decide)) (fun c_7 => ?_)
    refine lv_lload hx hb dX5_runScript_94 (lv_at hl 1 rfl) ?_
    refine lv_lconst (v := 0) hx hb dX5_runScript_96 (by decide) ?_
    refine W.lcmp hx hb dX5_runScript_97 ?_
    refine lv_if_le (tgt := 137) hx hb dX5_runScript_98 (by decide) (fun c_8 => absurd c_8 (lN_cmp1 (by decide) (by decide))) (fun c_8 => ?_)
    refine lv_aload_n hx hb dX5_runScript_101 rfl (lv_at hl 2 rfl) ?_
    refine x_get M hK hw 0 0 rfl rfl ff_X5_16 rfl dX5_runScript_102 ?_
    refine lv_lload_n hx hb dX5_runScript_105 rfl (lv_at hl 4 rfl) ?_
    refine lv_lload hx hb dX5_runScript_106 (lv_at hl 1 rfl) ?_
    refine lv_ldiv hx hb dX5_runScript_108 (by decide) ?_
    refine x_topL (y := (lN (sn / 1))) (lN_div (b := 1) (by omega) (by decide)) ?_
    refine lv_ldc2 (v := 100000) hx hb M.2.2.2.1 (M.2.2.2.2 _ mw_257) dX5_runScript_109 ?_
    refine lv_lrem hx hb dX5_runScript_112 (by decide) ?_
    refine x_topL (y := (lN (sn / 1 % 100000))) (lN_rem (b := 100000) (by omega) (by decide)) ?_
    refine lv_l2i (v := ((lN (sn / 1 % 100000))).toInt32) hx hb dX5_runScript_113 rfl ?_
    refine x_topN (n := (sn / 1 % 100000)) lN_i9 ?_
    refine x_cSI (As := [.ref h1, .int (nI (sn / 1 % 100000))]) (k_X3_succeeds l G Y h1 (sn / 1 % 100000) ρ γ (hI) (by omega)) cw_X5_272 [2] M hK hZ hw hl.1 rfl (by decide) ⟨by decide, by decide⟩ ⟨Nat.zero_le _, Nat.zero_le _⟩ rfl rfl (Nat.le_of_ble_eq_true rfl) dX5_runScript_114 (fun r sg h_9 H locs hw => ?_)
    obtain ⟨rfl, γa10, rfl⟩ := h_9
    have hw : xW G A s.heap [[(xo, .inr (4, [.ref h0, .ref h1, .ref hh, .ref sl, .ref sv, .ref tz, .ref az]))], aucW Y h0 ρ γ, aucW Y h1 (grpRow ρ (sn / 1 % 100000)) γa10] H locs := hw
    have hI11 : Inv (grpRow ρ (sn / 1 % 100000)) := Inv_grp hI
    refine x_bne M (tgt := 123) dX5_runScript_117 (by decide) (fun c_12 => ?_) (fun c_12 => ?_)
    · refine lv_lload hx hb dX5_runScript_123 (lv_at hl 1 rfl) ?_
      refine lv_ldc2 (v := 100000) hx hb M.2.2.2.1 (M.2.2.2.2 _ mw_257) dX5_runScript_125 ?_
      refine lv_ldiv hx hb dX5_runScript_128 (by decide) ?_
      refine x_topL (y := (lN 0)) rfl ?_
      refine lv_lstore (lv' := [(4, .long (lN 0)), (6, .int (nI 0)), (0, .ref xo), (1, .int (nI 1)), (2, .long (lN sn))]) hx hb dX5_runScript_129 hl (by decide) rfl (fun ls hl => ?_)
      refine lv_iinc (v := (nI 1)) (lv' := [(6, .int (nI 1)), (4, .long (lN 0)), (0, .ref xo), (1, .int (nI 1)), (2, .long (lN sn))]) hx hb dX5_runScript_131 hl (k := 1) rfl (by decide) (by decide) rfl (fun ls hl => ?_)
      refine lv_goto (tgt := 88) hx hb dX5_runScript_134 (by decide) ?_
      refine lv_iload hx hb dX5_runScript_88 (lv_at hl 0 rfl) ?_
      refine lv_iload_n hx hb dX5_runScript_90 rfl (lv_at hl 3 rfl) ?_
      refine x_cge M (tgt := 137) (by decide) (by decide) dX5_runScript_91 (by decide) (fun c_13 => ?_) (fun c_13 => absurd c_13 (by decide))
      refine lv_iconst (v := (-1)) hx hb dX5_runScript_137 (by decide) ?_
      exact hret _ _ _ (-1) _ _ dX5_runScript_138 hw rfl rfl ⟨by unfold rsV; rw [gs1, rsL_t c_12, rsL_n]; rfl, _, _, rfl⟩
    refine lv_iload hx hb dX5_runScript_120 (lv_at hl 0 rfl) ?_
    exact hret _ _ _ (nI 0) _ _ dX5_runScript_122 hw rfl rfl ⟨by unfold rsV; rw [gs1, rsL_f c_12]; exact mwN_1.symm, _, _, rfl⟩
  · refine lv_iload_n hx hb dX5_runScript_0 rfl (lv_at hl 1 rfl) ?_
    refine lv_iconst (v := (nI 1)) hx hb dX5_runScript_1 (by decide) ?_
    refine lv_iconst (v := (nI 3)) hx hb dX5_runScript_2 (by decide) ?_
    refine x_cSI (As := [.int (nI 2), .int (nI 1), .int (nI 3)]) (k_X5_outside l G Y (nI 2) (nI 1) (nI 3)) cw_X5_48 [] M hK hZ hw hl.1 rfl (by decide) ⟨by decide, by decide⟩ ⟨Nat.zero_le _, Nat.zero_le _⟩ rfl rfl (Nat.le_of_ble_eq_true rfl) dX5_runScript_3 (fun r sg h_14 H locs hw => ?_)
    obtain ⟨rfl, rfl⟩ := h_14
    have hw : xW G A s.heap [[(xo, .inr (4, [.ref h0, .ref h1, .ref hh, .ref sl, .ref sv, .ref tz, .ref az]))], aucW Y h0 ρ γ, aucW Y h1 κ γ1] H locs := hw
    refine x_beq M (tgt := 20) dX5_runScript_6 (by decide) (fun c_15 => ?_) (fun c_15 => absurd c_15 (fun z => nzT (a := 1) (b := 3) (n := 2) z (by decide) ⟨by decide, by decide⟩))
    refine lv_lconst (v := 1) hx hb dX5_runScript_20 (by decide) ?_
    refine x_topL (y := (lN 1)) rfl ?_
    refine lv_lstore (lv' := [(4, .long (lN 1)), (0, .ref xo), (1, .int (nI 2)), (2, .long (lN sn))]) hx hb dX5_runScript_21 hl (by decide) rfl (fun ls hl => ?_)
    refine lv_iconst (v := (nI 1)) hx hb dX5_runScript_23 (by decide) ?_
    refine lv_istore (lv' := [(6, .int (nI 1)), (4, .long (lN 1)), (0, .ref xo), (1, .int (nI 2)), (2, .long (lN sn))]) hx hb dX5_runScript_24 hl (by decide) rfl (fun ls hl => ?_)
    refine lv_iload hx hb dX5_runScript_26 (lv_at hl 0 rfl) ?_
    refine lv_iload_n hx hb dX5_runScript_28 rfl (lv_at hl 3 rfl) ?_
    refine x_cge M (tgt := 46) (by decide) (by decide) dX5_runScript_29 (by decide) (fun c_16 => absurd c_16 (by decide)) (fun c_16 => ?_)
    refine lv_lload hx hb dX5_runScript_32 (lv_at hl 1 rfl) ?_
    refine lv_ldc2 (v := 100000) hx hb M.2.2.2.1 (M.2.2.2.2 _ mw_257) dX5_runScript_34 ?_
    refine lv_lmul hx hb dX5_runScript_37 ?_
    refine x_topL (y := (lN 100000)) rfl ?_
    refine lv_lstore (lv' := [(4, .long (lN 100000)), (6, .int (nI 1)), (0, .ref xo), (1, .int (nI 2)), (2, .long (lN sn))]) hx hb dX5_runScript_38 hl (by decide) rfl (fun ls hl => ?_)
    refine lv_iinc (v := (nI 2)) (lv' := [(6, .int (nI 2)), (4, .long (lN 100000)), (0, .ref xo), (1, .int (nI 2)), (2, .long (lN sn))]) hx hb dX5_runScript_40 hl (k := 1) rfl (by decide) (by decide) rfl (fun ls hl => ?_)
    refine lv_goto (tgt := 26) hx hb dX5_runScript_43 (by decide) ?_
    refine lv_iload hx hb dX5_runScript_26 (lv_at hl 0 rfl) ?_
    refine lv_iload_n hx hb dX5_runScript_28 rfl (lv_at hl 3 rfl) ?_
    refine x_cge M (tgt := 46) (by decide) (by decide) dX5_runScript_29 (by decide) (fun c_17 => ?_) (fun c_17 => absurd c_17 (by decide))
    refine lv_lload_n hx hb dX5_runScript_46 rfl (lv_at hl 4 rfl) ?_
    refine lv_lconst (v := 0) hx hb dX5_runScript_47 (by decide) ?_
    refine W.lcmp hx hb dX5_runScript_48 ?_
    refine lv_if_lt (tgt := 63) hx hb dX5_runScript_49 (by decide) (fun c_18 => absurd c_18 (lN_cmp0 (by omega))) (fun c_18 => ?_)
    refine lv_lload_n hx hb dX5_runScript_52 rfl (lv_at hl 4 rfl) ?_
    refine lv_ldc2 (v := 100000) hx hb M.2.2.2.1 (M.2.2.2.2 _ mw_257) dX5_runScript_53 ?_
    refine lv_ldiv hx hb dX5_runScript_56 (by decide) ?_
    refine x_topL (y := (lN (sn / 100000))) (lN_div (b := 100000) (by omega) (by decide)) ?_
    refine lv_lload hx hb dX5_runScript_57 (lv_at hl 1 rfl) ?_
    refine W.lcmp hx hb dX5_runScript_59 ?_
    refine lv_if_lt (tgt := 74) hx hb dX5_runScript_60 (by decide) (fun c_19 => ?_) (fun c_19 => absurd c_19 (fun z => z (lN_cmp (by omega) (by omega))))
    refine lv_aload_n hx hb dX5_runScript_74 rfl (lv_at hl 2 rfl) ?_
    refine x_get M hK hw 0 0 rfl rfl ff_X5_16 rfl dX5_runScript_75 ?_
    refine lv_aload_n hx hb dX5_runScript_78 rfl (lv_at hl 2 rfl) ?_
    refine x_get M hK hw 0 0 rfl rfl ff_X5_10 rfl dX5_runScript_79 ?_
    refine x_cVV (As := [.ref h0]) (k_X1_become l G Y h1 h0 κ γ1 ρ γ (hI)) cw_X5_260 [2, 1] 2 0 M hK hZ hw hl.1 rfl (by decide) rfl rfl rfl ⟨by decide, by decide⟩ ⟨Nat.zero_le _, Nat.zero_le _⟩ rfl rfl (Nat.le_of_ble_eq_true rfl) dX5_runScript_82 (fun sg h_20 H locs hw => ?_)
    obtain rfl := h_20
    have hw : xW G A s.heap [[(xo, .inr (4, [.ref h0, .ref h1, .ref hh, .ref sl, .ref sv, .ref tz, .ref az]))], aucW Y h0 ρ γ, aucW Y h1 ρ γ] H locs := hw
    refine lv_iconst (v := (nI 0)) hx hb dX5_runScript_85 (by decide) ?_
    refine lv_istore (lv' := [(6, .int (nI 0)), (4, .long (lN 100000)), (0, .ref xo), (1, .int (nI 2)), (2, .long (lN sn))]) hx hb dX5_runScript_86 hl (by decide) rfl (fun ls hl => ?_)
    refine lv_iload hx hb dX5_runScript_88 (lv_at hl 0 rfl) ?_
    refine lv_iload_n hx hb dX5_runScript_90 rfl (lv_at hl 3 rfl) ?_
    refine x_cge M (tgt := 137) (by decide) (by decide) dX5_runScript_91 (by decide) (fun c_21 => absurd c_21 (by decide)) (fun c_21 => ?_)
    refine lv_lload hx hb dX5_runScript_94 (lv_at hl 1 rfl) ?_
    refine lv_lconst (v := 0) hx hb dX5_runScript_96 (by decide) ?_
    refine W.lcmp hx hb dX5_runScript_97 ?_
    refine lv_if_le (tgt := 137) hx hb dX5_runScript_98 (by decide) (fun c_22 => absurd c_22 (lN_cmp1 (by decide) (by decide))) (fun c_22 => ?_)
    refine lv_aload_n hx hb dX5_runScript_101 rfl (lv_at hl 2 rfl) ?_
    refine x_get M hK hw 0 0 rfl rfl ff_X5_16 rfl dX5_runScript_102 ?_
    refine lv_lload_n hx hb dX5_runScript_105 rfl (lv_at hl 4 rfl) ?_
    refine lv_lload hx hb dX5_runScript_106 (lv_at hl 1 rfl) ?_
    refine lv_ldiv hx hb dX5_runScript_108 (by decide) ?_
    refine x_topL (y := (lN (sn / 100000))) (lN_div (b := 100000) (by omega) (by decide)) ?_
    refine lv_ldc2 (v := 100000) hx hb M.2.2.2.1 (M.2.2.2.2 _ mw_257) dX5_runScript_109 ?_
    refine lv_lrem hx hb dX5_runScript_112 (by decide) ?_
    refine x_topL (y := (lN (sn / 100000 % 100000))) (lN_rem (b := 100000) (by omega) (by decide)) ?_
    refine lv_l2i (v := ((lN (sn / 100000 % 100000))).toInt32) hx hb dX5_runScript_113 rfl ?_
    refine x_topN (n := (sn / 100000 % 100000)) lN_i9 ?_
    refine x_cSI (As := [.ref h1, .int (nI (sn / 100000 % 100000))]) (k_X3_succeeds l G Y h1 (sn / 100000 % 100000) ρ γ (hI) (by omega)) cw_X5_272 [2] M hK hZ hw hl.1 rfl (by decide) ⟨by decide, by decide⟩ ⟨Nat.zero_le _, Nat.zero_le _⟩ rfl rfl (Nat.le_of_ble_eq_true rfl) dX5_runScript_114 (fun r sg h_23 H locs hw => ?_)
    obtain ⟨rfl, γa24, rfl⟩ := h_23
    have hw : xW G A s.heap [[(xo, .inr (4, [.ref h0, .ref h1, .ref hh, .ref sl, .ref sv, .ref tz, .ref az]))], aucW Y h0 ρ γ, aucW Y h1 (grpRow ρ (sn / 100000 % 100000)) γa24] H locs := hw
    have hI25 : Inv (grpRow ρ (sn / 100000 % 100000)) := Inv_grp hI
    refine x_bne M (tgt := 123) dX5_runScript_117 (by decide) (fun c_26 => ?_) (fun c_26 => ?_)
    · refine lv_lload hx hb dX5_runScript_123 (lv_at hl 1 rfl) ?_
      refine lv_ldc2 (v := 100000) hx hb M.2.2.2.1 (M.2.2.2.2 _ mw_257) dX5_runScript_125 ?_
      refine lv_ldiv hx hb dX5_runScript_128 (by decide) ?_
      refine x_topL (y := (lN 1)) rfl ?_
      refine lv_lstore (lv' := [(4, .long (lN 1)), (6, .int (nI 0)), (0, .ref xo), (1, .int (nI 2)), (2, .long (lN sn))]) hx hb dX5_runScript_129 hl (by decide) rfl (fun ls hl => ?_)
      refine lv_iinc (v := (nI 1)) (lv' := [(6, .int (nI 1)), (4, .long (lN 1)), (0, .ref xo), (1, .int (nI 2)), (2, .long (lN sn))]) hx hb dX5_runScript_131 hl (k := 1) rfl (by decide) (by decide) rfl (fun ls hl => ?_)
      refine lv_goto (tgt := 88) hx hb dX5_runScript_134 (by decide) ?_
      refine lv_iload hx hb dX5_runScript_88 (lv_at hl 0 rfl) ?_
      refine lv_iload_n hx hb dX5_runScript_90 rfl (lv_at hl 3 rfl) ?_
      refine x_cge M (tgt := 137) (by decide) (by decide) dX5_runScript_91 (by decide) (fun c_27 => absurd c_27 (by decide)) (fun c_27 => ?_)
      refine lv_lload hx hb dX5_runScript_94 (lv_at hl 1 rfl) ?_
      refine lv_lconst (v := 0) hx hb dX5_runScript_96 (by decide) ?_
      refine W.lcmp hx hb dX5_runScript_97 ?_
      refine lv_if_le (tgt := 137) hx hb dX5_runScript_98 (by decide) (fun c_28 => absurd c_28 (lN_cmp1 (by decide) (by decide))) (fun c_28 => ?_)
      refine lv_aload_n hx hb dX5_runScript_101 rfl (lv_at hl 2 rfl) ?_
      refine x_get M hK hw 0 0 rfl rfl ff_X5_16 rfl dX5_runScript_102 ?_
      refine lv_lload_n hx hb dX5_runScript_105 rfl (lv_at hl 4 rfl) ?_
      refine lv_lload hx hb dX5_runScript_106 (lv_at hl 1 rfl) ?_
      refine lv_ldiv hx hb dX5_runScript_108 (by decide) ?_
      refine x_topL (y := (lN (sn / 1))) (lN_div (b := 1) (by omega) (by decide)) ?_
      refine lv_ldc2 (v := 100000) hx hb M.2.2.2.1 (M.2.2.2.2 _ mw_257) dX5_runScript_109 ?_
      refine lv_lrem hx hb dX5_runScript_112 (by decide) ?_
      refine x_topL (y := (lN (sn / 1 % 100000))) (lN_rem (b := 100000) (by omega) (by decide)) ?_
      refine lv_l2i (v := ((lN (sn / 1 % 100000))).toInt32) hx hb dX5_runScript_113 rfl ?_
      refine x_topN (n := (sn / 1 % 100000)) lN_i9 ?_
      refine x_cSI (As := [.ref h1, .int (nI (sn / 1 % 100000))]) (k_X3_succeeds l G Y h1 (sn / 1 % 100000) (grpRow ρ (sn / 100000 % 100000)) γa24 (hI25) (by omega)) cw_X5_272 [2] M hK hZ hw hl.1 rfl (by decide) ⟨by decide, by decide⟩ ⟨Nat.zero_le _, Nat.zero_le _⟩ rfl rfl (Nat.le_of_ble_eq_true rfl) dX5_runScript_114 (fun r sg h_29 H locs hw => ?_)
      obtain ⟨rfl, γa30, rfl⟩ := h_29
      have hw : xW G A s.heap [[(xo, .inr (4, [.ref h0, .ref h1, .ref hh, .ref sl, .ref sv, .ref tz, .ref az]))], aucW Y h0 ρ γ, aucW Y h1 (grpRow (grpRow ρ (sn / 100000 % 100000)) (sn / 1 % 100000)) γa30] H locs := hw
      have hI31 : Inv (grpRow (grpRow ρ (sn / 100000 % 100000)) (sn / 1 % 100000)) := Inv_grp hI25
      refine x_bne M (tgt := 123) dX5_runScript_117 (by decide) (fun c_32 => ?_) (fun c_32 => ?_)
      · refine lv_lload hx hb dX5_runScript_123 (lv_at hl 1 rfl) ?_
        refine lv_ldc2 (v := 100000) hx hb M.2.2.2.1 (M.2.2.2.2 _ mw_257) dX5_runScript_125 ?_
        refine lv_ldiv hx hb dX5_runScript_128 (by decide) ?_
        refine x_topL (y := (lN 0)) rfl ?_
        refine lv_lstore (lv' := [(4, .long (lN 0)), (6, .int (nI 1)), (0, .ref xo), (1, .int (nI 2)), (2, .long (lN sn))]) hx hb dX5_runScript_129 hl (by decide) rfl (fun ls hl => ?_)
        refine lv_iinc (v := (nI 2)) (lv' := [(6, .int (nI 2)), (4, .long (lN 0)), (0, .ref xo), (1, .int (nI 2)), (2, .long (lN sn))]) hx hb dX5_runScript_131 hl (k := 1) rfl (by decide) (by decide) rfl (fun ls hl => ?_)
        refine lv_goto (tgt := 88) hx hb dX5_runScript_134 (by decide) ?_
        refine lv_iload hx hb dX5_runScript_88 (lv_at hl 0 rfl) ?_
        refine lv_iload_n hx hb dX5_runScript_90 rfl (lv_at hl 3 rfl) ?_
        refine x_cge M (tgt := 137) (by decide) (by decide) dX5_runScript_91 (by decide) (fun c_33 => ?_) (fun c_33 => absurd c_33 (by decide))
        refine lv_iconst (v := (-1)) hx hb dX5_runScript_137 (by decide) ?_
        exact hret _ _ _ (-1) _ _ dX5_runScript_138 hw rfl rfl ⟨by unfold rsV; rw [gs2, rsL_t c_26, rsL_t c_32, rsL_n]; rfl, _, _, rfl⟩
      refine lv_iload hx hb dX5_runScript_120 (lv_at hl 0 rfl) ?_
      exact hret _ _ _ (nI 1) _ _ dX5_runScript_122 hw rfl rfl ⟨by unfold rsV; rw [gs2, rsL_t c_26, rsL_f c_32]; exact mwN_1.symm, _, _, rfl⟩
    refine lv_iload hx hb dX5_runScript_120 (lv_at hl 0 rfl) ?_
    exact hret _ _ _ (nI 0) _ _ dX5_runScript_122 hw rfl rfl ⟨by unfold rsV; rw [gs2, rsL_f c_26]; exact mwN_1.symm, _, _, rfl⟩
  · refine lv_iload_n hx hb dX5_runScript_0 rfl (lv_at hl 1 rfl) ?_
    refine lv_iconst (v := (nI 1)) hx hb dX5_runScript_1 (by decide) ?_
    refine lv_iconst (v := (nI 3)) hx hb dX5_runScript_2 (by decide) ?_
    refine x_cSI (As := [.int (nI 3), .int (nI 1), .int (nI 3)]) (k_X5_outside l G Y (nI 3) (nI 1) (nI 3)) cw_X5_48 [] M hK hZ hw hl.1 rfl (by decide) ⟨by decide, by decide⟩ ⟨Nat.zero_le _, Nat.zero_le _⟩ rfl rfl (Nat.le_of_ble_eq_true rfl) dX5_runScript_3 (fun r sg h_34 H locs hw => ?_)
    obtain ⟨rfl, rfl⟩ := h_34
    have hw : xW G A s.heap [[(xo, .inr (4, [.ref h0, .ref h1, .ref hh, .ref sl, .ref sv, .ref tz, .ref az]))], aucW Y h0 ρ γ, aucW Y h1 κ γ1] H locs := hw
    refine x_beq M (tgt := 20) dX5_runScript_6 (by decide) (fun c_35 => ?_) (fun c_35 => absurd c_35 (fun z => nzT (a := 1) (b := 3) (n := 3) z (by decide) ⟨by decide, by decide⟩))
    refine lv_lconst (v := 1) hx hb dX5_runScript_20 (by decide) ?_
    refine x_topL (y := (lN 1)) rfl ?_
    refine lv_lstore (lv' := [(4, .long (lN 1)), (0, .ref xo), (1, .int (nI 3)), (2, .long (lN sn))]) hx hb dX5_runScript_21 hl (by decide) rfl (fun ls hl => ?_)
    refine lv_iconst (v := (nI 1)) hx hb dX5_runScript_23 (by decide) ?_
    refine lv_istore (lv' := [(6, .int (nI 1)), (4, .long (lN 1)), (0, .ref xo), (1, .int (nI 3)), (2, .long (lN sn))]) hx hb dX5_runScript_24 hl (by decide) rfl (fun ls hl => ?_)
    refine lv_iload hx hb dX5_runScript_26 (lv_at hl 0 rfl) ?_
    refine lv_iload_n hx hb dX5_runScript_28 rfl (lv_at hl 3 rfl) ?_
    refine x_cge M (tgt := 46) (by decide) (by decide) dX5_runScript_29 (by decide) (fun c_36 => absurd c_36 (by decide)) (fun c_36 => ?_)
    refine lv_lload hx hb dX5_runScript_32 (lv_at hl 1 rfl) ?_
    refine lv_ldc2 (v := 100000) hx hb M.2.2.2.1 (M.2.2.2.2 _ mw_257) dX5_runScript_34 ?_
    refine lv_lmul hx hb dX5_runScript_37 ?_
    refine x_topL (y := (lN 100000)) rfl ?_
    refine lv_lstore (lv' := [(4, .long (lN 100000)), (6, .int (nI 1)), (0, .ref xo), (1, .int (nI 3)), (2, .long (lN sn))]) hx hb dX5_runScript_38 hl (by decide) rfl (fun ls hl => ?_)
    refine lv_iinc (v := (nI 2)) (lv' := [(6, .int (nI 2)), (4, .long (lN 100000)), (0, .ref xo), (1, .int (nI 3)), (2, .long (lN sn))]) hx hb dX5_runScript_40 hl (k := 1) rfl (by decide) (by decide) rfl (fun ls hl => ?_)
    refine lv_goto (tgt := 26) hx hb dX5_runScript_43 (by decide) ?_
    refine lv_iload hx hb dX5_runScript_26 (lv_at hl 0 rfl) ?_
    refine lv_iload_n hx hb dX5_runScript_28 rfl (lv_at hl 3 rfl) ?_
    refine x_cge M (tgt := 46) (by decide) (by decide) dX5_runScript_29 (by decide) (fun c_37 => absurd c_37 (by decide)) (fun c_37 => ?_)
    refine lv_lload hx hb dX5_runScript_32 (lv_at hl 1 rfl) ?_
    refine lv_ldc2 (v := 100000) hx hb M.2.2.2.1 (M.2.2.2.2 _ mw_257) dX5_runScript_34 ?_
    refine lv_lmul hx hb dX5_runScript_37 ?_
    refine x_topL (y := (lN 10000000000)) rfl ?_
    refine lv_lstore (lv' := [(4, .long (lN 10000000000)), (6, .int (nI 2)), (0, .ref xo), (1, .int (nI 3)), (2, .long (lN sn))]) hx hb dX5_runScript_38 hl (by decide) rfl (fun ls hl => ?_)
    refine lv_iinc (v := (nI 3)) (lv' := [(6, .int (nI 3)), (4, .long (lN 10000000000)), (0, .ref xo), (1, .int (nI 3)), (2, .long (lN sn))]) hx hb dX5_runScript_40 hl (k := 1) rfl (by decide) (by decide) rfl (fun ls hl => ?_)
    refine lv_goto (tgt := 26) hx hb dX5_runScript_43 (by decide) ?_
    refine lv_iload hx hb dX5_runScript_26 (lv_at hl 0 rfl) ?_
    refine lv_iload_n hx hb dX5_runScript_28 rfl (lv_at hl 3 rfl) ?_
    refine x_cge M (tgt := 46) (by decide) (by decide) dX5_runScript_29 (by decide) (fun c_38 => ?_) (fun c_38 => absurd c_38 (by decide))
    refine lv_lload_n hx hb dX5_runScript_46 rfl (lv_at hl 4 rfl) ?_
    refine lv_lconst (v := 0) hx hb dX5_runScript_47 (by decide) ?_
    refine W.lcmp hx hb dX5_runScript_48 ?_
    refine lv_if_lt (tgt := 63) hx hb dX5_runScript_49 (by decide) (fun c_39 => absurd c_39 (lN_cmp0 (by omega))) (fun c_39 => ?_)
    refine lv_lload_n hx hb dX5_runScript_52 rfl (lv_at hl 4 rfl) ?_
    refine lv_ldc2 (v := 100000) hx hb M.2.2.2.1 (M.2.2.2.2 _ mw_257) dX5_runScript_53 ?_
    refine lv_ldiv hx hb dX5_runScript_56 (by decide) ?_
    refine x_topL (y := (lN (sn / 100000))) (lN_div (b := 100000) (by omega) (by decide)) ?_
    refine lv_lload hx hb dX5_runScript_57 (lv_at hl 1 rfl) ?_
    refine W.lcmp hx hb dX5_runScript_59 ?_
    refine lv_if_lt (tgt := 74) hx hb dX5_runScript_60 (by decide) (fun c_40 => ?_) (fun c_40 => absurd c_40 (fun z => z (lN_cmp (by omega) (by omega))))
    refine lv_aload_n hx hb dX5_runScript_74 rfl (lv_at hl 2 rfl) ?_
    refine x_get M hK hw 0 0 rfl rfl ff_X5_16 rfl dX5_runScript_75 ?_
    refine lv_aload_n hx hb dX5_runScript_78 rfl (lv_at hl 2 rfl) ?_
    refine x_get M hK hw 0 0 rfl rfl ff_X5_10 rfl dX5_runScript_79 ?_
    refine x_cVV (As := [.ref h0]) (k_X1_become l G Y h1 h0 κ γ1 ρ γ (hI)) cw_X5_260 [2, 1] 2 0 M hK hZ hw hl.1 rfl (by decide) rfl rfl rfl ⟨by decide, by decide⟩ ⟨Nat.zero_le _, Nat.zero_le _⟩ rfl rfl (Nat.le_of_ble_eq_true rfl) dX5_runScript_82 (fun sg h_41 H locs hw => ?_)
    obtain rfl := h_41
    have hw : xW G A s.heap [[(xo, .inr (4, [.ref h0, .ref h1, .ref hh, .ref sl, .ref sv, .ref tz, .ref az]))], aucW Y h0 ρ γ, aucW Y h1 ρ γ] H locs := hw
    refine lv_iconst (v := (nI 0)) hx hb dX5_runScript_85 (by decide) ?_
    refine lv_istore (lv' := [(6, .int (nI 0)), (4, .long (lN 10000000000)), (0, .ref xo), (1, .int (nI 3)), (2, .long (lN sn))]) hx hb dX5_runScript_86 hl (by decide) rfl (fun ls hl => ?_)
    refine lv_iload hx hb dX5_runScript_88 (lv_at hl 0 rfl) ?_
    refine lv_iload_n hx hb dX5_runScript_90 rfl (lv_at hl 3 rfl) ?_
    refine x_cge M (tgt := 137) (by decide) (by decide) dX5_runScript_91 (by decide) (fun c_42 => absurd c_42 (by decide)) (fun c_42 => ?_)
    refine lv_lload hx hb dX5_runScript_94 (lv_at hl 1 rfl) ?_
    refine lv_lconst (v := 0) hx hb dX5_runScript_96 (by decide) ?_
    refine W.lcmp hx hb dX5_runScript_97 ?_
    refine lv_if_le (tgt := 137) hx hb dX5_runScript_98 (by decide) (fun c_43 => absurd c_43 (lN_cmp1 (by decide) (by decide))) (fun c_43 => ?_)
    refine lv_aload_n hx hb dX5_runScript_101 rfl (lv_at hl 2 rfl) ?_
    refine x_get M hK hw 0 0 rfl rfl ff_X5_16 rfl dX5_runScript_102 ?_
    refine lv_lload_n hx hb dX5_runScript_105 rfl (lv_at hl 4 rfl) ?_
    refine lv_lload hx hb dX5_runScript_106 (lv_at hl 1 rfl) ?_
    refine lv_ldiv hx hb dX5_runScript_108 (by decide) ?_
    refine x_topL (y := (lN (sn / 10000000000))) (lN_div (b := 10000000000) (by omega) (by decide)) ?_
    refine lv_ldc2 (v := 100000) hx hb M.2.2.2.1 (M.2.2.2.2 _ mw_257) dX5_runScript_109 ?_
    refine lv_lrem hx hb dX5_runScript_112 (by decide) ?_
    refine x_topL (y := (lN (sn / 10000000000 % 100000))) (lN_rem (b := 100000) (by omega) (by decide)) ?_
    refine lv_l2i (v := ((lN (sn / 10000000000 % 100000))).toInt32) hx hb dX5_runScript_113 rfl ?_
    refine x_topN (n := (sn / 10000000000 % 100000)) lN_i9 ?_
    refine x_cSI (As := [.ref h1, .int (nI (sn / 10000000000 % 100000))]) (k_X3_succeeds l G Y h1 (sn / 10000000000 % 100000) ρ γ (hI) (by omega)) cw_X5_272 [2] M hK hZ hw hl.1 rfl (by decide) ⟨by decide, by decide⟩ ⟨Nat.zero_le _, Nat.zero_le _⟩ rfl rfl (Nat.le_of_ble_eq_true rfl) dX5_runScript_114 (fun r sg h_44 H locs hw => ?_)
    obtain ⟨rfl, γa45, rfl⟩ := h_44
    have hw : xW G A s.heap [[(xo, .inr (4, [.ref h0, .ref h1, .ref hh, .ref sl, .ref sv, .ref tz, .ref az]))], aucW Y h0 ρ γ, aucW Y h1 (grpRow ρ (sn / 10000000000 % 100000)) γa45] H locs := hw
    have hI46 : Inv (grpRow ρ (sn / 10000000000 % 100000)) := Inv_grp hI
    refine x_bne M (tgt := 123) dX5_runScript_117 (by decide) (fun c_47 => ?_) (fun c_47 => ?_)
    · refine lv_lload hx hb dX5_runScript_123 (lv_at hl 1 rfl) ?_
      refine lv_ldc2 (v := 100000) hx hb M.2.2.2.1 (M.2.2.2.2 _ mw_257) dX5_runScript_125 ?_
      refine lv_ldiv hx hb dX5_runScript_128 (by decide) ?_
      refine x_topL (y := (lN 100000)) rfl ?_
      refine lv_lstore (lv' := [(4, .long (lN 100000)), (6, .int (nI 0)), (0, .ref xo), (1, .int (nI 3)), (2, .long (lN sn))]) hx hb dX5_runScript_129 hl (by decide) rfl (fun ls hl => ?_)
      refine lv_iinc (v := (nI 1)) (lv' := [(6, .int (nI 1)), (4, .long (lN 100000)), (0, .ref xo), (1, .int (nI 3)), (2, .long (lN sn))]) hx hb dX5_runScript_131 hl (k := 1) rfl (by decide) (by decide) rfl (fun ls hl => ?_)
      refine lv_goto (tgt := 88) hx hb dX5_runScript_134 (by decide) ?_
      refine lv_iload hx hb dX5_runScript_88 (lv_at hl 0 rfl) ?_
      refine lv_iload_n hx hb dX5_runScript_90 rfl (lv_at hl 3 rfl) ?_
      refine x_cge M (tgt := 137) (by decide) (by decide) dX5_runScript_91 (by decide) (fun c_48 => absurd c_48 (by decide)) (fun c_48 => ?_)
      refine lv_lload hx hb dX5_runScript_94 (lv_at hl 1 rfl) ?_
      refine lv_lconst (v := 0) hx hb dX5_runScript_96 (by decide) ?_
      refine W.lcmp hx hb dX5_runScript_97 ?_
      refine lv_if_le (tgt := 137) hx hb dX5_runScript_98 (by decide) (fun c_49 => absurd c_49 (lN_cmp1 (by decide) (by decide))) (fun c_49 => ?_)
      refine lv_aload_n hx hb dX5_runScript_101 rfl (lv_at hl 2 rfl) ?_
      refine x_get M hK hw 0 0 rfl rfl ff_X5_16 rfl dX5_runScript_102 ?_
      refine lv_lload_n hx hb dX5_runScript_105 rfl (lv_at hl 4 rfl) ?_
      refine lv_lload hx hb dX5_runScript_106 (lv_at hl 1 rfl) ?_
      refine lv_ldiv hx hb dX5_runScript_108 (by decide) ?_
      refine x_topL (y := (lN (sn / 100000))) (lN_div (b := 100000) (by omega) (by decide)) ?_
      refine lv_ldc2 (v := 100000) hx hb M.2.2.2.1 (M.2.2.2.2 _ mw_257) dX5_runScript_109 ?_
      refine lv_lrem hx hb dX5_runScript_112 (by decide) ?_
      refine x_topL (y := (lN (sn / 100000 % 100000))) (lN_rem (b := 100000) (by omega) (by decide)) ?_
      refine lv_l2i (v := ((lN (sn / 100000 % 100000))).toInt32) hx hb dX5_runScript_113 rfl ?_
      refine x_topN (n := (sn / 100000 % 100000)) lN_i9 ?_
      refine x_cSI (As := [.ref h1, .int (nI (sn / 100000 % 100000))]) (k_X3_succeeds l G Y h1 (sn / 100000 % 100000) (grpRow ρ (sn / 10000000000 % 100000)) γa45 (hI46) (by omega)) cw_X5_272 [2] M hK hZ hw hl.1 rfl (by decide) ⟨by decide, by decide⟩ ⟨Nat.zero_le _, Nat.zero_le _⟩ rfl rfl (Nat.le_of_ble_eq_true rfl) dX5_runScript_114 (fun r sg h_50 H locs hw => ?_)
      obtain ⟨rfl, γa51, rfl⟩ := h_50
      have hw : xW G A s.heap [[(xo, .inr (4, [.ref h0, .ref h1, .ref hh, .ref sl, .ref sv, .ref tz, .ref az]))], aucW Y h0 ρ γ, aucW Y h1 (grpRow (grpRow ρ (sn / 10000000000 % 100000)) (sn / 100000 % 100000)) γa51] H locs := hw
      have hI52 : Inv (grpRow (grpRow ρ (sn / 10000000000 % 100000)) (sn / 100000 % 100000)) := Inv_grp hI46
      refine x_bne M (tgt := 123) dX5_runScript_117 (by decide) (fun c_53 => ?_) (fun c_53 => ?_)
      · refine lv_lload hx hb dX5_runScript_123 (lv_at hl 1 rfl) ?_
        refine lv_ldc2 (v := 100000) hx hb M.2.2.2.1 (M.2.2.2.2 _ mw_257) dX5_runScript_125 ?_
        refine lv_ldiv hx hb dX5_runScript_128 (by decide) ?_
        refine x_topL (y := (lN 1)) rfl ?_
        refine lv_lstore (lv' := [(4, .long (lN 1)), (6, .int (nI 1)), (0, .ref xo), (1, .int (nI 3)), (2, .long (lN sn))]) hx hb dX5_runScript_129 hl (by decide) rfl (fun ls hl => ?_)
        refine lv_iinc (v := (nI 2)) (lv' := [(6, .int (nI 2)), (4, .long (lN 1)), (0, .ref xo), (1, .int (nI 3)), (2, .long (lN sn))]) hx hb dX5_runScript_131 hl (k := 1) rfl (by decide) (by decide) rfl (fun ls hl => ?_)
        refine lv_goto (tgt := 88) hx hb dX5_runScript_134 (by decide) ?_
        refine lv_iload hx hb dX5_runScript_88 (lv_at hl 0 rfl) ?_
        refine lv_iload_n hx hb dX5_runScript_90 rfl (lv_at hl 3 rfl) ?_
        refine x_cge M (tgt := 137) (by decide) (by decide) dX5_runScript_91 (by decide) (fun c_54 => absurd c_54 (by decide)) (fun c_54 => ?_)
        refine lv_lload hx hb dX5_runScript_94 (lv_at hl 1 rfl) ?_
        refine lv_lconst (v := 0) hx hb dX5_runScript_96 (by decide) ?_
        refine W.lcmp hx hb dX5_runScript_97 ?_
        refine lv_if_le (tgt := 137) hx hb dX5_runScript_98 (by decide) (fun c_55 => absurd c_55 (lN_cmp1 (by decide) (by decide))) (fun c_55 => ?_)
        refine lv_aload_n hx hb dX5_runScript_101 rfl (lv_at hl 2 rfl) ?_
        refine x_get M hK hw 0 0 rfl rfl ff_X5_16 rfl dX5_runScript_102 ?_
        refine lv_lload_n hx hb dX5_runScript_105 rfl (lv_at hl 4 rfl) ?_
        refine lv_lload hx hb dX5_runScript_106 (lv_at hl 1 rfl) ?_
        refine lv_ldiv hx hb dX5_runScript_108 (by decide) ?_
        refine x_topL (y := (lN (sn / 1))) (lN_div (b := 1) (by omega) (by decide)) ?_
        refine lv_ldc2 (v := 100000) hx hb M.2.2.2.1 (M.2.2.2.2 _ mw_257) dX5_runScript_109 ?_
        refine lv_lrem hx hb dX5_runScript_112 (by decide) ?_
        refine x_topL (y := (lN (sn / 1 % 100000))) (lN_rem (b := 100000) (by omega) (by decide)) ?_
        refine lv_l2i (v := ((lN (sn / 1 % 100000))).toInt32) hx hb dX5_runScript_113 rfl ?_
        refine x_topN (n := (sn / 1 % 100000)) lN_i9 ?_
        refine x_cSI (As := [.ref h1, .int (nI (sn / 1 % 100000))]) (k_X3_succeeds l G Y h1 (sn / 1 % 100000) (grpRow (grpRow ρ (sn / 10000000000 % 100000)) (sn / 100000 % 100000)) γa51 (hI52) (by omega)) cw_X5_272 [2] M hK hZ hw hl.1 rfl (by decide) ⟨by decide, by decide⟩ ⟨Nat.zero_le _, Nat.zero_le _⟩ rfl rfl (Nat.le_of_ble_eq_true rfl) dX5_runScript_114 (fun r sg h_56 H locs hw => ?_)
        obtain ⟨rfl, γa57, rfl⟩ := h_56
        have hw : xW G A s.heap [[(xo, .inr (4, [.ref h0, .ref h1, .ref hh, .ref sl, .ref sv, .ref tz, .ref az]))], aucW Y h0 ρ γ, aucW Y h1 (grpRow (grpRow (grpRow ρ (sn / 10000000000 % 100000)) (sn / 100000 % 100000)) (sn / 1 % 100000)) γa57] H locs := hw
        have hI58 : Inv (grpRow (grpRow (grpRow ρ (sn / 10000000000 % 100000)) (sn / 100000 % 100000)) (sn / 1 % 100000)) := Inv_grp hI52
        refine x_bne M (tgt := 123) dX5_runScript_117 (by decide) (fun c_59 => ?_) (fun c_59 => ?_)
        · refine lv_lload hx hb dX5_runScript_123 (lv_at hl 1 rfl) ?_
          refine lv_ldc2 (v := 100000) hx hb M.2.2.2.1 (M.2.2.2.2 _ mw_257) dX5_runScript_125 ?_
          refine lv_ldiv hx hb dX5_runScript_128 (by decide) ?_
          refine x_topL (y := (lN 0)) rfl ?_
          refine lv_lstore (lv' := [(4, .long (lN 0)), (6, .int (nI 2)), (0, .ref xo), (1, .int (nI 3)), (2, .long (lN sn))]) hx hb dX5_runScript_129 hl (by decide) rfl (fun ls hl => ?_)
          refine lv_iinc (v := (nI 3)) (lv' := [(6, .int (nI 3)), (4, .long (lN 0)), (0, .ref xo), (1, .int (nI 3)), (2, .long (lN sn))]) hx hb dX5_runScript_131 hl (k := 1) rfl (by decide) (by decide) rfl (fun ls hl => ?_)
          refine lv_goto (tgt := 88) hx hb dX5_runScript_134 (by decide) ?_
          refine lv_iload hx hb dX5_runScript_88 (lv_at hl 0 rfl) ?_
          refine lv_iload_n hx hb dX5_runScript_90 rfl (lv_at hl 3 rfl) ?_
          refine x_cge M (tgt := 137) (by decide) (by decide) dX5_runScript_91 (by decide) (fun c_60 => ?_) (fun c_60 => absurd c_60 (by decide))
          refine lv_iconst (v := (-1)) hx hb dX5_runScript_137 (by decide) ?_
          exact hret _ _ _ (-1) _ _ dX5_runScript_138 hw rfl rfl ⟨by unfold rsV; rw [gs3, rsL_t c_47, rsL_t c_53, rsL_t c_59, rsL_n]; rfl, _, _, rfl⟩
        refine lv_iload hx hb dX5_runScript_120 (lv_at hl 0 rfl) ?_
        exact hret _ _ _ (nI 2) _ _ dX5_runScript_122 hw rfl rfl ⟨by unfold rsV; rw [gs3, rsL_t c_47, rsL_t c_53, rsL_f c_59]; exact mwN_1.symm, _, _, rfl⟩
      refine lv_iload hx hb dX5_runScript_120 (lv_at hl 0 rfl) ?_
      exact hret _ _ _ (nI 1) _ _ dX5_runScript_122 hw rfl rfl ⟨by unfold rsV; rw [gs3, rsL_t c_47, rsL_f c_53]; exact mwN_1.symm, _, _, rfl⟩
    refine lv_iload hx hb dX5_runScript_120 (lv_at hl 0 rfl) ?_
    exact hret _ _ _ (nI 0) _ _ dX5_runScript_122 hw rfl rfl ⟨by unfold rsV; rw [gs3, rsL_f c_47]; exact mwN_1.symm, _, _, rfl⟩
set_option maxHeartbeats 4000000 in
set_option maxRecDepth 20000 in
theorem t_X5_runScript_1 (l : Launch) (hfl : l.stackTraces = false) (G : va_G) (Y : Nat → Nat) (xo h0 h1 hh sl sv tz az : Nat) (n : Int32) (sc : Int64) (hk : (!inZ n.toInt 1 3) = true) : CtT l yX5_runScript cX5_runScript 7 (some .int) 6 82 [.ref xo, .int n, .long sc] [[(xo, .inr (4, [.ref h0, .ref h1, .ref hh, .ref sl, .ref sv, .ref tz, .ref az]))]] eIAE G Y := by
  refine x_ofT (by decide) (Nat.le_of_ble_eq_true rfl) (fun p e s m args below meth c A ls Q M hK hZ hw hl htab hlk hQ => ?_)
  obtain ⟨hx, hb, -⟩ := id M
  have hl : lv_has ls 7 [(0, .ref xo), (1, .int n), (2, .long sc)] := hl
  refine lv_iload_n hx hb dX5_runScript_0 rfl (lv_at hl 1 rfl) ?_
  refine lv_iconst (v := (nI 1)) hx hb dX5_runScript_1 (by decide) ?_
  refine lv_iconst (v := (nI 3)) hx hb dX5_runScript_2 (by decide) ?_
  refine x_cSI (As := [.int n, .int (nI 1), .int (nI 3)]) (k_X5_outside l G Y n (nI 1) (nI 3)) cw_X5_48 [] M hK hZ hw hl.1 rfl (by decide) ⟨by decide, by decide⟩ ⟨Nat.zero_le _, Nat.zero_le _⟩ rfl rfl (Nat.le_of_ble_eq_true rfl) dX5_runScript_3 (fun r sg h_1 H locs hw => ?_)
  obtain ⟨rfl, rfl⟩ := h_1
  have hw : xW G A s.heap [[(xo, .inr (4, [.ref h0, .ref h1, .ref hh, .ref sl, .ref sv, .ref tz, .ref az]))]] H locs := hw
  refine x_beq M (tgt := 20) dX5_runScript_6 (by decide) (fun c_2 => absurd c_2 (fun z => by have z2 : (!inZ n.toInt 1 3) = false := z; rw [hk] at z2; exact absurd z2 (by decide))) (fun c_2 => ?_)
  exact x_throwSW (own := RX5) (ik := 52) (ic := 56) (is := 266) (q := 226) (text := "n is not 1 to 3") hfl M hK hZ hw hl.1 htab hlk hQ thr_IAE (by simp [xStr]) dX5_runScript_9 dX5_runScript_12 dX5_runScript_13 dX5_runScript_16 dX5_runScript_19 ⟨by decide, by decide, by decide, by decide⟩
set_option maxHeartbeats 4000000 in
set_option maxRecDepth 20000 in
theorem t_X5_runScript_2 (l : Launch) (hfl : l.stackTraces = false) (G : va_G) (Y : Nat → Nat) (xo h0 h1 hh sl sv tz az : Nat) (n : Nat) (sc : Int64) (hn : 1 ≤ n ∧ n ≤ 3) (hk1 : ¬ (0 ≤ sc.toInt ∧ sc.toInt < 100000 * (((if n = 1 then 1 else if n = 2 then 100000 else 10000000000 : Nat)) : Int))) : CtT l yX5_runScript cX5_runScript 7 (some .int) 6 82 [.ref xo, .int (nI n), .long sc] [[(xo, .inr (4, [.ref h0, .ref h1, .ref hh, .ref sl, .ref sv, .ref tz, .ref az]))]] eIAE G Y := by
  refine x_ofT (by decide) (Nat.le_of_ble_eq_true rfl) (fun p e s m args below meth c A ls Q M hK hZ hw hl htab hlk hQ => ?_)
  obtain ⟨hx, hb, -⟩ := id M
  have hl : lv_has ls 7 [(0, .ref xo), (1, .int (nI n)), (2, .long sc)] := hl
  rcases (show n = 1 ∨ n = 2 ∨ n = 3 by omega) with rfl | rfl | rfl
  · have hk : ¬ (0 ≤ sc.toInt ∧ sc.toInt < 100000 * ((1 : Nat) : Int)) := hk1
    refine lv_iload_n hx hb dX5_runScript_0 rfl (lv_at hl 1 rfl) ?_
    refine lv_iconst (v := (nI 1)) hx hb dX5_runScript_1 (by decide) ?_
    refine lv_iconst (v := (nI 3)) hx hb dX5_runScript_2 (by decide) ?_
    refine x_cSI (As := [.int (nI 1), .int (nI 1), .int (nI 3)]) (k_X5_outside l G Y (nI 1) (nI 1) (nI 3)) cw_X5_48 [] M hK hZ hw hl.1 rfl (by decide) ⟨by decide, by decide⟩ ⟨Nat.zero_le _, Nat.zero_le _⟩ rfl rfl (Nat.le_of_ble_eq_true rfl) dX5_runScript_3 (fun r sg h_1 H locs hw => ?_)
    obtain ⟨rfl, rfl⟩ := h_1
    have hw : xW G A s.heap [[(xo, .inr (4, [.ref h0, .ref h1, .ref hh, .ref sl, .ref sv, .ref tz, .ref az]))]] H locs := hw
    refine x_beq M (tgt := 20) dX5_runScript_6 (by decide) (fun c_2 => ?_) (fun c_2 => absurd c_2 (fun z => nzT (a := 1) (b := 3) (n := 1) z (by decide) ⟨by decide, by decide⟩))
    refine lv_lconst (v := 1) hx hb dX5_runScript_20 (by decide) ?_
    refine x_topL (y := (lN 1)) rfl ?_
    refine lv_lstore (lv' := [(4, .long (lN 1)), (0, .ref xo), (1, .int (nI 1)), (2, .long sc)]) hx hb dX5_runScript_21 hl (by decide) rfl (fun ls hl => ?_)
    refine lv_iconst (v := (nI 1)) hx hb dX5_runScript_23 (by decide) ?_
    refine lv_istore (lv' := [(6, .int (nI 1)), (4, .long (lN 1)), (0, .ref xo), (1, .int (nI 1)), (2, .long sc)]) hx hb dX5_runScript_24 hl (by decide) rfl (fun ls hl => ?_)
    refine lv_iload hx hb dX5_runScript_26 (lv_at hl 0 rfl) ?_
    refine lv_iload_n hx hb dX5_runScript_28 rfl (lv_at hl 3 rfl) ?_
    refine x_cge M (tgt := 46) (by decide) (by decide) dX5_runScript_29 (by decide) (fun c_3 => ?_) (fun c_3 => absurd c_3 (by decide))
    refine lv_lload_n hx hb dX5_runScript_46 rfl (lv_at hl 4 rfl) ?_
    refine lv_lconst (v := 0) hx hb dX5_runScript_47 (by decide) ?_
    refine W.lcmp hx hb dX5_runScript_48 ?_
    refine lv_if_lt (tgt := 63) hx hb dX5_runScript_49 (by decide) (fun c_4 => ?_) (fun c_4 => ?_)
    · exact x_throwSW (own := RX5) (ik := 52) (ic := 56) (is := 270) (q := 227) (text := "the script does not have 0 to 5 * n digits") hfl M hK hZ hw hl.1 htab hlk hQ thr_IAE (by simp [xStr]) dX5_runScript_63 dX5_runScript_66 dX5_runScript_67 dX5_runScript_70 dX5_runScript_73 ⟨by decide, by decide, by decide, by decide⟩
    refine lv_lload_n hx hb dX5_runScript_52 rfl (lv_at hl 4 rfl) ?_
    refine lv_ldc2 (v := 100000) hx hb M.2.2.2.1 (M.2.2.2.2 _ mw_257) dX5_runScript_53 ?_
    refine lv_ldiv hx hb dX5_runScript_56 (by decide) ?_
    refine lv_lload hx hb dX5_runScript_57 (lv_at hl 1 rfl) ?_
    refine W.lcmp hx hb dX5_runScript_59 ?_
    refine lv_if_lt (tgt := 74) hx hb dX5_runScript_60 (by decide) (fun c_5 => ?_) (fun c_5 => ?_)
    · exact absurd (rs_in c_4 c_5 (by decide)) hk
    exact x_throwSW (own := RX5) (ik := 52) (ic := 56) (is := 270) (q := 227) (text := "the script does not have 0 to 5 * n digits") hfl M hK hZ hw hl.1 htab hlk hQ thr_IAE (by simp [xStr]) dX5_runScript_63 dX5_runScript_66 dX5_runScript_67 dX5_runScript_70 dX5_runScript_73 ⟨by decide, by decide, by decide, by decide⟩
  · have hk : ¬ (0 ≤ sc.toInt ∧ sc.toInt < 100000 * ((100000 : Nat) : Int)) := hk1
    refine lv_iload_n hx hb dX5_runScript_0 rfl (lv_at hl 1 rfl) ?_
    refine lv_iconst (v := (nI 1)) hx hb dX5_runScript_1 (by decide) ?_
    refine lv_iconst (v := (nI 3)) hx hb dX5_runScript_2 (by decide) ?_
    refine x_cSI (As := [.int (nI 2), .int (nI 1), .int (nI 3)]) (k_X5_outside l G Y (nI 2) (nI 1) (nI 3)) cw_X5_48 [] M hK hZ hw hl.1 rfl (by decide) ⟨by decide, by decide⟩ ⟨Nat.zero_le _, Nat.zero_le _⟩ rfl rfl (Nat.le_of_ble_eq_true rfl) dX5_runScript_3 (fun r sg h_6 H locs hw => ?_)
    obtain ⟨rfl, rfl⟩ := h_6
    have hw : xW G A s.heap [[(xo, .inr (4, [.ref h0, .ref h1, .ref hh, .ref sl, .ref sv, .ref tz, .ref az]))]] H locs := hw
    refine x_beq M (tgt := 20) dX5_runScript_6 (by decide) (fun c_7 => ?_) (fun c_7 => absurd c_7 (fun z => nzT (a := 1) (b := 3) (n := 2) z (by decide) ⟨by decide, by decide⟩))
    refine lv_lconst (v := 1) hx hb dX5_runScript_20 (by decide) ?_
    refine x_topL (y := (lN 1)) rfl ?_
    refine lv_lstore (lv' := [(4, .long (lN 1)), (0, .ref xo), (1, .int (nI 2)), (2, .long sc)]) hx hb dX5_runScript_21 hl (by decide) rfl (fun ls hl => ?_)
    refine lv_iconst (v := (nI 1)) hx hb dX5_runScript_23 (by decide) ?_
    refine lv_istore (lv' := [(6, .int (nI 1)), (4, .long (lN 1)), (0, .ref xo), (1, .int (nI 2)), (2, .long sc)]) hx hb dX5_runScript_24 hl (by decide) rfl (fun ls hl => ?_)
    refine lv_iload hx hb dX5_runScript_26 (lv_at hl 0 rfl) ?_
    refine lv_iload_n hx hb dX5_runScript_28 rfl (lv_at hl 3 rfl) ?_
    refine x_cge M (tgt := 46) (by decide) (by decide) dX5_runScript_29 (by decide) (fun c_8 => absurd c_8 (by decide)) (fun c_8 => ?_)
    refine lv_lload hx hb dX5_runScript_32 (lv_at hl 1 rfl) ?_
    refine lv_ldc2 (v := 100000) hx hb M.2.2.2.1 (M.2.2.2.2 _ mw_257) dX5_runScript_34 ?_
    refine lv_lmul hx hb dX5_runScript_37 ?_
    refine x_topL (y := (lN 100000)) rfl ?_
    refine lv_lstore (lv' := [(4, .long (lN 100000)), (6, .int (nI 1)), (0, .ref xo), (1, .int (nI 2)), (2, .long sc)]) hx hb dX5_runScript_38 hl (by decide) rfl (fun ls hl => ?_)
    refine lv_iinc (v := (nI 2)) (lv' := [(6, .int (nI 2)), (4, .long (lN 100000)), (0, .ref xo), (1, .int (nI 2)), (2, .long sc)]) hx hb dX5_runScript_40 hl (k := 1) rfl (by decide) (by decide) rfl (fun ls hl => ?_)
    refine lv_goto (tgt := 26) hx hb dX5_runScript_43 (by decide) ?_
    refine lv_iload hx hb dX5_runScript_26 (lv_at hl 0 rfl) ?_
    refine lv_iload_n hx hb dX5_runScript_28 rfl (lv_at hl 3 rfl) ?_
    refine x_cge M (tgt := 46) (by decide) (by decide) dX5_runScript_29 (by decide) (fun c_9 => ?_) (fun c_9 => absurd c_9 (by decide))
    refine lv_lload_n hx hb dX5_runScript_46 rfl (lv_at hl 4 rfl) ?_
    refine lv_lconst (v := 0) hx hb dX5_runScript_47 (by decide) ?_
    refine W.lcmp hx hb dX5_runScript_48 ?_
    refine lv_if_lt (tgt := 63) hx hb dX5_runScript_49 (by decide) (fun c_10 => ?_) (fun c_10 => ?_)
    · exact x_throwSW (own := RX5) (ik := 52) (ic := 56) (is := 270) (q := 227) (text := "the script does not have 0 to 5 * n digits") hfl M hK hZ hw hl.1 htab hlk hQ thr_IAE (by simp [xStr]) dX5_runScript_63 dX5_runScript_66 dX5_runScript_67 dX5_runScript_70 dX5_runScript_73 ⟨by decide, by decide, by decide, by decide⟩
    refine lv_lload_n hx hb dX5_runScript_52 rfl (lv_at hl 4 rfl) ?_
    refine lv_ldc2 (v := 100000) hx hb M.2.2.2.1 (M.2.2.2.2 _ mw_257) dX5_runScript_53 ?_
    refine lv_ldiv hx hb dX5_runScript_56 (by decide) ?_
    refine lv_lload hx hb dX5_runScript_57 (lv_at hl 1 rfl) ?_
    refine W.lcmp hx hb dX5_runScript_59 ?_
    refine lv_if_lt (tgt := 74) hx hb dX5_runScript_60 (by decide) (fun c_11 => ?_) (fun c_11 => ?_)
    · exact absurd (rs_in c_10 c_11 (by decide)) hk
    exact x_throwSW (own := RX5) (ik := 52) (ic := 56) (is := 270) (q := 227) (text := "the script does not have 0 to 5 * n digits") hfl M hK hZ hw hl.1 htab hlk hQ thr_IAE (by simp [xStr]) dX5_runScript_63 dX5_runScript_66 dX5_runScript_67 dX5_runScript_70 dX5_runScript_73 ⟨by decide, by decide, by decide, by decide⟩
  · have hk : ¬ (0 ≤ sc.toInt ∧ sc.toInt < 100000 * ((10000000000 : Nat) : Int)) := hk1
    refine lv_iload_n hx hb dX5_runScript_0 rfl (lv_at hl 1 rfl) ?_
    refine lv_iconst (v := (nI 1)) hx hb dX5_runScript_1 (by decide) ?_
    refine lv_iconst (v := (nI 3)) hx hb dX5_runScript_2 (by decide) ?_
    refine x_cSI (As := [.int (nI 3), .int (nI 1), .int (nI 3)]) (k_X5_outside l G Y (nI 3) (nI 1) (nI 3)) cw_X5_48 [] M hK hZ hw hl.1 rfl (by decide) ⟨by decide, by decide⟩ ⟨Nat.zero_le _, Nat.zero_le _⟩ rfl rfl (Nat.le_of_ble_eq_true rfl) dX5_runScript_3 (fun r sg h_12 H locs hw => ?_)
    obtain ⟨rfl, rfl⟩ := h_12
    have hw : xW G A s.heap [[(xo, .inr (4, [.ref h0, .ref h1, .ref hh, .ref sl, .ref sv, .ref tz, .ref az]))]] H locs := hw
    refine x_beq M (tgt := 20) dX5_runScript_6 (by decide) (fun c_13 => ?_) (fun c_13 => absurd c_13 (fun z => nzT (a := 1) (b := 3) (n := 3) z (by decide) ⟨by decide, by decide⟩))
    refine lv_lconst (v := 1) hx hb dX5_runScript_20 (by decide) ?_
    refine x_topL (y := (lN 1)) rfl ?_
    refine lv_lstore (lv' := [(4, .long (lN 1)), (0, .ref xo), (1, .int (nI 3)), (2, .long sc)]) hx hb dX5_runScript_21 hl (by decide) rfl (fun ls hl => ?_)
    refine lv_iconst (v := (nI 1)) hx hb dX5_runScript_23 (by decide) ?_
    refine lv_istore (lv' := [(6, .int (nI 1)), (4, .long (lN 1)), (0, .ref xo), (1, .int (nI 3)), (2, .long sc)]) hx hb dX5_runScript_24 hl (by decide) rfl (fun ls hl => ?_)
    refine lv_iload hx hb dX5_runScript_26 (lv_at hl 0 rfl) ?_
    refine lv_iload_n hx hb dX5_runScript_28 rfl (lv_at hl 3 rfl) ?_
    refine x_cge M (tgt := 46) (by decide) (by decide) dX5_runScript_29 (by decide) (fun c_14 => absurd c_14 (by decide)) (fun c_14 => ?_)
    refine lv_lload hx hb dX5_runScript_32 (lv_at hl 1 rfl) ?_
    refine lv_ldc2 (v := 100000) hx hb M.2.2.2.1 (M.2.2.2.2 _ mw_257) dX5_runScript_34 ?_
    refine lv_lmul hx hb dX5_runScript_37 ?_
    refine x_topL (y := (lN 100000)) rfl ?_
    refine lv_lstore (lv' := [(4, .long (lN 100000)), (6, .int (nI 1)), (0, .ref xo), (1, .int (nI 3)), (2, .long sc)]) hx hb dX5_runScript_38 hl (by decide) rfl (fun ls hl => ?_)
    refine lv_iinc (v := (nI 2)) (lv' := [(6, .int (nI 2)), (4, .long (lN 100000)), (0, .ref xo), (1, .int (nI 3)), (2, .long sc)]) hx hb dX5_runScript_40 hl (k := 1) rfl (by decide) (by decide) rfl (fun ls hl => ?_)
    refine lv_goto (tgt := 26) hx hb dX5_runScript_43 (by decide) ?_
    refine lv_iload hx hb dX5_runScript_26 (lv_at hl 0 rfl) ?_
    refine lv_iload_n hx hb dX5_runScript_28 rfl (lv_at hl 3 rfl) ?_
    refine x_cge M (tgt := 46) (by decide) (by decide) dX5_runScript_29 (by decide) (fun c_15 => absurd c_15 (by decide)) (fun c_15 => ?_)
    refine lv_lload hx hb dX5_runScript_32 (lv_at hl 1 rfl) ?_
    refine lv_ldc2 (v := 100000) hx hb M.2.2.2.1 (M.2.2.2.2 _ mw_257) dX5_runScript_34 ?_
    refine lv_lmul hx hb dX5_runScript_37 ?_
    refine x_topL (y := (lN 10000000000)) rfl ?_
    refine lv_lstore (lv' := [(4, .long (lN 10000000000)), (6, .int (nI 2)), (0, .ref xo), (1, .int (nI 3)), (2, .long sc)]) hx hb dX5_runScript_38 hl (by decide) rfl (fun ls hl => ?_)
    refine lv_iinc (v := (nI 3)) (lv' := [(6, .int (nI 3)), (4, .long (lN 10000000000)), (0, .ref xo), (1, .int (nI 3)), (2, .long sc)]) hx hb dX5_runScript_40 hl (k := 1) rfl (by decide) (by decide) rfl (fun ls hl => ?_)
    refine lv_goto (tgt := 26) hx hb dX5_runScript_43 (by decide) ?_
    refine lv_iload hx hb dX5_runScript_26 (lv_at hl 0 rfl) ?_
    refine lv_iload_n hx hb dX5_runScript_28 rfl (lv_at hl 3 rfl) ?_
    refine x_cge M (tgt := 46) (by decide) (by decide) dX5_runScript_29 (by decide) (fun c_16 => ?_) (fun c_16 => absurd c_16 (by decide))
    refine lv_lload_n hx hb dX5_runScript_46 rfl (lv_at hl 4 rfl) ?_
    refine lv_lconst (v := 0) hx hb dX5_runScript_47 (by decide) ?_
    refine W.lcmp hx hb dX5_runScript_48 ?_
    refine lv_if_lt (tgt := 63) hx hb dX5_runScript_49 (by decide) (fun c_17 => ?_) (fun c_17 => ?_)
    · exact x_throwSW (own := RX5) (ik := 52) (ic := 56) (is := 270) (q := 227) (text := "the script does not have 0 to 5 * n digits") hfl M hK hZ hw hl.1 htab hlk hQ thr_IAE (by simp [xStr]) dX5_runScript_63 dX5_runScript_66 dX5_runScript_67 dX5_runScript_70 dX5_runScript_73 ⟨by decide, by decide, by decide, by decide⟩
    refine lv_lload_n hx hb dX5_runScript_52 rfl (lv_at hl 4 rfl) ?_
    refine lv_ldc2 (v := 100000) hx hb M.2.2.2.1 (M.2.2.2.2 _ mw_257) dX5_runScript_53 ?_
    refine lv_ldiv hx hb dX5_runScript_56 (by decide) ?_
    refine lv_lload hx hb dX5_runScript_57 (lv_at hl 1 rfl) ?_
    refine W.lcmp hx hb dX5_runScript_59 ?_
    refine lv_if_lt (tgt := 74) hx hb dX5_runScript_60 (by decide) (fun c_18 => ?_) (fun c_18 => ?_)
    · exact absurd (rs_in c_17 c_18 (by decide)) hk
    exact x_throwSW (own := RX5) (ik := 52) (ic := 56) (is := 270) (q := 227) (text := "the script does not have 0 to 5 * n digits") hfl M hK hZ hw hl.1 htab hlk hQ thr_IAE (by simp [xStr]) dX5_runScript_63 dX5_runScript_66 dX5_runScript_67 dX5_runScript_70 dX5_runScript_73 ⟨by decide, by decide, by decide, by decide⟩
set_option maxHeartbeats 4000000 in
set_option maxRecDepth 20000 in
theorem k_X5_simulate (l : Launch) (G : va_G) (Y : Nat → Nat) (xo h0 h1 hh sl sv tz az : Nat) (sd : Int64) (k : Nat) (ρ : Nat → Nat) (γ : Nat → Nat → Nat) (κ : Nat → Nat) (γ1 : Nat → Nat → Nat) (hI : Inv ρ) (hk : 1 ≤ k ∧ k ≤ 99) : CtI l yX5_simulate cX5_simulate 7 .int 6 142 [.ref xo, .long sd, .int (nI k)] [[(xo, .inr (4, [.ref h0, .ref h1, .ref hh, .ref sl, .ref sv, .ref tz, .ref az]))], aucW Y h0 ρ γ, aucW Y h1 κ γ1] (fun r sg => r = simV ρ (simR k sd ρ) ∧ ∃ (κ' : Nat → Nat) (γ' : Nat → Nat → Nat), sg = [[(xo, .inr (4, [.ref h0, .ref h1, .ref hh, .ref sl, .ref sv, .ref tz, .ref az]))], aucW Y h0 ρ γ, aucW Y h1 κ' γ']) G Y := by
  refine x_ofI (by decide) (Nat.le_of_ble_eq_true rfl) (fun p e s m args below meth c A ls Q M hK hZ hw hl hret => ?_)
  obtain ⟨hx, hb, -⟩ := id M
  have hl : lv_has ls 7 [(0, .ref xo), (1, .long sd), (3, .int (nI k))] := hl
  have := hI.n6
  have := hI.over
  have := hI.keep
  have := hI.stepp
  refine lv_iload_n hx hb dX5_simulate_0 rfl (lv_at hl 2 rfl) ?_
  refine lv_iconst (v := (nI 1)) hx hb dX5_simulate_1 (by decide) ?_
  refine lv_bipush (v := (nI 99)) hx hb dX5_simulate_2 (by decide) ?_
  refine x_cSI (As := [.int (nI k), .int (nI 1), .int (nI 99)]) (k_X5_outside l G Y (nI k) (nI 1) (nI 99)) cw_X5_48 [] M hK hZ hw hl.1 rfl (by decide) ⟨by decide, by decide⟩ ⟨Nat.zero_le _, Nat.zero_le _⟩ rfl rfl (Nat.le_of_ble_eq_true rfl) dX5_simulate_4 (fun r sg h_1 H locs hw => ?_)
  obtain ⟨rfl, rfl⟩ := h_1
  have hw : xW G A s.heap [[(xo, .inr (4, [.ref h0, .ref h1, .ref hh, .ref sl, .ref sv, .ref tz, .ref az]))], aucW Y h0 ρ γ, aucW Y h1 κ γ1] H locs := hw
  refine x_beq M (tgt := 21) dX5_simulate_7 (by decide) (fun c_2 => ?_) (fun c_2 => absurd c_2 (fun z => nzT (a := 1) (b := 99) z (by omega) ⟨by omega, by omega⟩))
  refine lv_aload_n hx hb dX5_simulate_21 rfl (lv_at hl 0 rfl) ?_
  refine x_get M hK hw 0 0 rfl rfl ff_X5_16 rfl dX5_simulate_22 ?_
  refine lv_aload_n hx hb dX5_simulate_25 rfl (lv_at hl 0 rfl) ?_
  refine x_get M hK hw 0 0 rfl rfl ff_X5_10 rfl dX5_simulate_26 ?_
  refine x_cVV (As := [.ref h0]) (k_X1_become l G Y h1 h0 κ γ1 ρ γ (hI)) cw_X5_260 [2, 1] 2 0 M hK hZ hw hl.1 rfl (by decide) rfl rfl rfl ⟨by decide, by decide⟩ ⟨Nat.zero_le _, Nat.zero_le _⟩ rfl rfl (Nat.le_of_ble_eq_true rfl) dX5_simulate_29 (fun sg h_3 H locs hw => ?_)
  obtain rfl := h_3
  have hw : xW G A s.heap [[(xo, .inr (4, [.ref h0, .ref h1, .ref hh, .ref sl, .ref sv, .ref tz, .ref az]))], aucW Y h0 ρ γ, aucW Y h1 ρ γ] H locs := hw
  refine lv_lload_n hx hb dX5_simulate_32 rfl (lv_at hl 1 rfl) ?_
  refine lv_lstore (lv' := [(4, .long sd), (0, .ref xo), (1, .long sd), (3, .int (nI k))]) hx hb dX5_simulate_33 hl (by decide) rfl (fun ls hl => ?_)
  refine lv_iconst (v := (nI 0)) hx hb dX5_simulate_35 (by decide) ?_
  refine lv_istore (lv' := [(6, .int (nI 0)), (4, .long sd), (0, .ref xo), (1, .long sd), (3, .int (nI k))]) hx hb dX5_simulate_36 hl (by decide) rfl (fun ls hl => ?_)
  have L38 : ∀ (fu : Nat) (i : Nat) (xs : Int64) (σ : Nat → Nat) (γs : Nat → Nat → Nat), (k - i < fu) → (i ≤ k) → (simR k sd ρ = simR (k - i) xs σ) → (Inv σ) → ∀ (H : Heap) (locs : List Loc), xW G A s.heap [[(xo, .inr (4, [.ref h0, .ref h1, .ref hh, .ref sl, .ref sv, .ref tz, .ref az]))], aucW Y h0 ρ γ, aucW Y h1 σ γs] H locs → ∀ (ls : Array Slot), lv_has ls 7 [(0, .ref xo), (1, .long sd), (3, .int (nI k)), (4, .long xs), (6, .int (nI i))] → W p l e (xRm 6 142) s m args below meth c H locs 0 0 Q (F0 m 38 ls []) := by
    intro fu
    induction fu with
    | zero => intro i xs σ γs hm; exact absurd hm (Nat.not_lt_zero _)
    | succ fu ih38 =>
      intro i xs σ γs hm hi hr hIs H locs hw ls hl
      refine lv_iload hx hb dX5_simulate_38 (lv_at hl 4 rfl) ?_
      refine lv_iload_n hx hb dX5_simulate_40 rfl (lv_at hl 2 rfl) ?_
      refine x_cge M (tgt := 75) (by omega) (by omega) dX5_simulate_41 (by decide) (fun c_4 => ?_) (fun c_4 => ?_)
      · have hE : simR k sd ρ = σ := by rw [hr, show k - i = 0 by omega]; rfl
        refine lv_sipush (v := (nI 1000)) hx hb dX5_simulate_75 (by decide) ?_
        refine lv_aload_n hx hb dX5_simulate_78 rfl (lv_at hl 0 rfl) ?_
        refine x_get M hK hw 0 0 rfl rfl ff_X5_16 rfl dX5_simulate_79 ?_
        refine x_get M hK hw 2 0 rfl rfl ff_X5_95 rfl dX5_simulate_82 ?_
        refine lv_aload_n hx hb dX5_simulate_85 rfl (lv_at hl 0 rfl) ?_
        refine x_get M hK hw 0 0 rfl rfl ff_X5_10 rfl dX5_simulate_86 ?_
        refine x_get M hK hw 1 0 rfl rfl ff_X5_95 rfl dX5_simulate_89 ?_
        refine lv_isub hx hb dX5_simulate_92 ?_
        refine lv_imul hx hb dX5_simulate_93 ?_
        refine lv_aload_n hx hb dX5_simulate_94 rfl (lv_at hl 0 rfl) ?_
        refine x_get M hK hw 0 0 rfl rfl ff_X5_16 rfl dX5_simulate_95 ?_
        refine x_cVI (As := []) (k_X1_allDemands l G Y h1 σ γs (hIs)) cw_X5_288 [2] 2 0 M hK hZ hw hl.1 rfl (by decide) rfl rfl rfl ⟨by decide, by decide⟩ ⟨Nat.zero_le _, Nat.zero_le _⟩ rfl rfl (Nat.le_of_ble_eq_true rfl) dX5_simulate_98 (fun r sg h_5 H locs hw => ?_)
        obtain ⟨rfl, rfl⟩ := h_5
        have hw : xW G A s.heap [[(xo, .inr (4, [.ref h0, .ref h1, .ref hh, .ref sl, .ref sv, .ref tz, .ref az]))], aucW Y h0 ρ γ, aucW Y h1 σ γs] H locs := hw
        refine lv_iadd hx hb dX5_simulate_101 ?_
        exact hret _ _ _ (((nI 1000) * ((nI (σ 0)) - (nI (ρ 0)))) + (nI (allDem σ))) _ _ dX5_simulate_102 hw rfl rfl ⟨by rw [hE]; rfl, _, _, rfl⟩
      refine lv_lload hx hb dX5_simulate_44 (lv_at hl 3 rfl) ?_
      refine lv_ldc2 (v := 6364136223846793005) hx hb M.2.2.2.1 (M.2.2.2.2 _ mw_396) dX5_simulate_46 ?_
      refine lv_lmul hx hb dX5_simulate_49 ?_
      refine lv_ldc2 (v := 1442695040888963407) hx hb M.2.2.2.1 (M.2.2.2.2 _ mw_397) dX5_simulate_50 ?_
      refine lv_ladd hx hb dX5_simulate_53 ?_
      refine x_topL (y := (simX xs)) rfl ?_
      refine lv_lstore (lv' := [(4, .long (simX xs)), (0, .ref xo), (1, .long sd), (3, .int (nI k)), (6, .int (nI i))]) hx hb dX5_simulate_54 hl (by decide) rfl (fun ls hl => ?_)
      refine lv_aload_n hx hb dX5_simulate_56 rfl (lv_at hl 1 rfl) ?_
      refine x_get M hK hw 0 0 rfl rfl ff_X5_16 rfl dX5_simulate_57 ?_
      refine lv_lload hx hb dX5_simulate_60 (lv_at hl 0 rfl) ?_
      refine lv_bipush (v := (nI 33)) hx hb dX5_simulate_62 (by decide) ?_
      refine lv_lushr (v := (((simX xs)).toUInt64 >>> (((nI 33)).toInt64.toUInt64 &&& Int64.toUInt64 63)).toInt64) hx hb dX5_simulate_64 rfl ?_
      refine lv_l2i (v := ((((simX xs)).toUInt64 >>> (((nI 33)).toInt64.toUInt64 &&& Int64.toUInt64 63)).toInt64).toInt32) hx hb dX5_simulate_65 rfl ?_
      refine x_topN (n := (simN (simX xs))) simN_i ?_
      refine x_cSV (As := [.ref h1, .int (nI (simN (simX xs)))]) (k_X3_takeTurn l G Y h1 (simN (simX xs)) σ γs (hIs) (simN_lt)) cw_X5_284 [2] M hK hZ hw hl.1 rfl (by decide) ⟨by decide, by decide⟩ ⟨Nat.zero_le _, Nat.zero_le _⟩ rfl rfl (Nat.le_of_ble_eq_true rfl) dX5_simulate_66 (fun sg h_6 H locs hw => ?_)
      obtain ⟨γa7, rfl⟩ := h_6
      have hw : xW G A s.heap [[(xo, .inr (4, [.ref h0, .ref h1, .ref hh, .ref sl, .ref sv, .ref tz, .ref az]))], aucW Y h0 ρ γ, aucW Y h1 (turnRow σ (simN (simX xs))) γa7] H locs := hw
      refine lv_iinc (v := (nI (1 + i))) (lv' := [(6, .int (nI (1 + i))), (4, .long (simX xs)), (0, .ref xo), (1, .long sd), (3, .int (nI k))]) hx hb dX5_simulate_69 hl (k := 4) rfl (by rw [show (1 : Int) = ((1 : Nat) : Int) from rfl, nI_inc]; exact congrArg nI (by omega)) (by decide) rfl (fun ls hl => ?_)
      refine lv_goto (tgt := 38) hx hb dX5_simulate_72 (by decide) ?_
      exact ih38 (1 + i) (simX xs) (turnRow σ (simN (simX xs))) γa7 (by omega) (by omega) (by rw [hr]; exact sim_1 (by omega)) (Inv_turn hIs) _ _ hw _ (lv_sub hl [2, 3, 4, 1, 0] rfl)
  exact L38 (k - 0 + 1) 0 sd ρ γ (Nat.lt_succ_self _) (by omega) (rfl) (hI) _ _ hw _ (lv_sub hl [2, 3, 4, 1, 0] rfl)
set_option maxHeartbeats 4000000 in
set_option maxRecDepth 20000 in
theorem t_X5_simulate (l : Launch) (hfl : l.stackTraces = false) (G : va_G) (Y : Nat → Nat) (xo h0 h1 hh sl sv tz az : Nat) (sd : Int64) (k : Int32) (hk : (!inZ k.toInt 1 99) = true) : CtT l yX5_simulate cX5_simulate 7 (some .int) 6 82 [.ref xo, .long sd, .int k] [[(xo, .inr (4, [.ref h0, .ref h1, .ref hh, .ref sl, .ref sv, .ref tz, .ref az]))]] eIAE G Y := by
  refine x_ofT (by decide) (Nat.le_of_ble_eq_true rfl) (fun p e s m args below meth c A ls Q M hK hZ hw hl htab hlk hQ => ?_)
  obtain ⟨hx, hb, -⟩ := id M
  have hl : lv_has ls 7 [(0, .ref xo), (1, .long sd), (3, .int k)] := hl
  refine lv_iload_n hx hb dX5_simulate_0 rfl (lv_at hl 2 rfl) ?_
  refine lv_iconst (v := (nI 1)) hx hb dX5_simulate_1 (by decide) ?_
  refine lv_bipush (v := (nI 99)) hx hb dX5_simulate_2 (by decide) ?_
  refine x_cSI (As := [.int k, .int (nI 1), .int (nI 99)]) (k_X5_outside l G Y k (nI 1) (nI 99)) cw_X5_48 [] M hK hZ hw hl.1 rfl (by decide) ⟨by decide, by decide⟩ ⟨Nat.zero_le _, Nat.zero_le _⟩ rfl rfl (Nat.le_of_ble_eq_true rfl) dX5_simulate_4 (fun r sg h_1 H locs hw => ?_)
  obtain ⟨rfl, rfl⟩ := h_1
  have hw : xW G A s.heap [[(xo, .inr (4, [.ref h0, .ref h1, .ref hh, .ref sl, .ref sv, .ref tz, .ref az]))]] H locs := hw
  refine x_beq M (tgt := 21) dX5_simulate_7 (by decide) (fun c_2 => absurd c_2 (fun z => by have z2 : (!inZ k.toInt 1 99) = false := z; rw [hk] at z2; exact absurd z2 (by decide))) (fun c_2 => ?_)
  exact x_throwSW (own := RX5) (ik := 52) (ic := 56) (is := 278) (q := 228) (text := "m is not 1 to 99") hfl M hK hZ hw hl.1 htab hlk hQ thr_IAE (by simp [xStr]) dX5_simulate_10 dX5_simulate_13 dX5_simulate_14 dX5_simulate_17 dX5_simulate_20 ⟨by decide, by decide, by decide, by decide⟩
set_option maxHeartbeats 4000000 in
set_option maxRecDepth 20000 in
theorem k_X5_save_0 (l : Launch) (G : va_G) (Y : Nat → Nat) (xo h0 h1 hh sl sv tz az : Nat) (a0 a1 : Nat) (fl : Nat → Int32) (κ0 : Nat → Nat) (δ0 : Nat → Nat → Nat) (κ1 : Nat → Nat) (δ1 : Nat → Nat → Nat) (ρ : Nat → Nat) (γ : Nat → Nat → Nat) (hI : Inv ρ) : CtI l yX5_save cX5_save 2 .int 2 81 [.ref xo, .int (nI 0)] [[(xo, .inr (4, [.ref h0, .ref h1, .ref hh, .ref sl, .ref sv, .ref tz, .ref az]))], aucW Y h0 ρ γ, [(sl, .inl (Y 4, 2, .inr (.inr (.inr (.inr (fun k => some (if k = 0 then a0 else a1)))))))], aucW Y a0 κ0 δ0, aucW Y a1 κ1 δ1, [(sv, .inl (Y 1, 2, .inl fl))]] (fun r sg => r = nI (ρ 0) ∧ sg = [[(xo, .inr (4, [.ref h0, .ref h1, .ref hh, .ref sl, .ref sv, .ref tz, .ref az]))], aucW Y h0 ρ γ, [(sl, .inl (Y 4, 2, .inr (.inr (.inr (.inr (fun k => some (if k = 0 then a0 else a1)))))))], aucW Y a0 ρ γ, aucW Y a1 κ1 δ1, [(sv, .inl (Y 1, 2, .inl (upd fl 0 (nI 1))))]]) G Y := by
  refine x_ofI (by decide) (Nat.le_of_ble_eq_true rfl) (fun p e s m args below meth c A ls Q M hK hZ hw hl hret => ?_)
  obtain ⟨hx, hb, -⟩ := id M
  have hl : lv_has ls 2 [(0, .ref xo), (1, .int (nI 0))] := hl
  have := hI.n6
  have := hI.over
  have := hI.keep
  have := hI.stepp
  refine lv_aload_n hx hb dX5_save_0 rfl (lv_at hl 0 rfl) ?_
  refine lv_iload_n hx hb dX5_save_1 rfl (lv_at hl 1 rfl) ?_
  refine x_cVV (As := [.int (nI 0)]) (k_X5_needSlot l G Y xo h0 h1 hh sl sv tz az 0 (by omega)) cw_X5_291 [0] 0 0 M hK hZ hw hl.1 rfl (by decide) rfl rfl rfl ⟨by decide, by decide⟩ ⟨Nat.zero_le _, Nat.zero_le _⟩ rfl rfl (Nat.le_of_ble_eq_true rfl) dX5_save_2 (fun sg h_1 H locs hw => ?_)
  obtain rfl := h_1
  have hw : xW G A s.heap [[(xo, .inr (4, [.ref h0, .ref h1, .ref hh, .ref sl, .ref sv, .ref tz, .ref az]))], aucW Y h0 ρ γ, [(sl, .inl (Y 4, 2, .inr (.inr (.inr (.inr (fun k => some (if k = 0 then a0 else a1)))))))], aucW Y a0 κ0 δ0, aucW Y a1 κ1 δ1, [(sv, .inl (Y 1, 2, .inl fl))]] H locs := hw
  refine lv_aload_n hx hb dX5_save_5 rfl (lv_at hl 0 rfl) ?_
  refine x_get M hK hw 0 0 rfl rfl ff_X5_26 rfl dX5_save_6 ?_
  refine lv_iload_n hx hb dX5_save_9 rfl (lv_at hl 1 rfl) ?_
  refine x_qald M hK hw 2 0 rfl rfl (by decide) (by decide) rfl dX5_save_10 ?_
  refine lv_aload_n hx hb dX5_save_11 rfl (lv_at hl 0 rfl) ?_
  refine x_get M hK hw 0 0 rfl rfl ff_X5_10 rfl dX5_save_12 ?_
  refine x_cVV (As := [.ref h0]) (k_X1_become l G Y a0 h0 κ0 δ0 ρ γ (hI)) cw_X5_260 [3, 1] 3 0 M hK hZ hw hl.1 rfl (by decide) rfl rfl rfl ⟨by decide, by decide⟩ ⟨Nat.zero_le _, Nat.zero_le _⟩ rfl rfl (Nat.le_of_ble_eq_true rfl) dX5_save_15 (fun sg h_2 H locs hw => ?_)
  obtain rfl := h_2
  have hw : xW G A s.heap [[(xo, .inr (4, [.ref h0, .ref h1, .ref hh, .ref sl, .ref sv, .ref tz, .ref az]))], aucW Y h0 ρ γ, [(sl, .inl (Y 4, 2, .inr (.inr (.inr (.inr (fun k => some (if k = 0 then a0 else a1)))))))], aucW Y a0 ρ γ, aucW Y a1 κ1 δ1, [(sv, .inl (Y 1, 2, .inl fl))]] H locs := hw
  refine lv_aload_n hx hb dX5_save_18 rfl (lv_at hl 0 rfl) ?_
  refine x_get M hK hw 0 0 rfl rfl ff_X5_30 rfl dX5_save_19 ?_
  refine lv_iload_n hx hb dX5_save_22 rfl (lv_at hl 1 rfl) ?_
  refine lv_iconst (v := (nI 1)) hx hb dX5_save_23 (by decide) ?_
  refine x_zast M hK hw 5 0 rfl rfl (by decide) (by decide) (by decide) dX5_save_24 (fun H locs hw => ?_)
  have hw : xW G A s.heap [[(xo, .inr (4, [.ref h0, .ref h1, .ref hh, .ref sl, .ref sv, .ref tz, .ref az]))], aucW Y h0 ρ γ, [(sl, .inl (Y 4, 2, .inr (.inr (.inr (.inr (fun k => some (if k = 0 then a0 else a1)))))))], aucW Y a0 ρ γ, aucW Y a1 κ1 δ1, [(sv, .inl (Y 1, 2, .inl (upd fl 0 (nI 1))))]] H locs := hw
  refine lv_aload_n hx hb dX5_save_25 rfl (lv_at hl 0 rfl) ?_
  refine x_get M hK hw 0 0 rfl rfl ff_X5_10 rfl dX5_save_26 ?_
  refine x_get M hK hw 1 0 rfl rfl ff_X5_95 rfl dX5_save_29 ?_
  exact hret _ _ _ (nI (ρ 0)) _ _ dX5_save_32 hw rfl rfl ⟨rfl, rfl⟩
set_option maxHeartbeats 4000000 in
set_option maxRecDepth 20000 in
theorem k_X5_save_1 (l : Launch) (G : va_G) (Y : Nat → Nat) (xo h0 h1 hh sl sv tz az : Nat) (a0 a1 : Nat) (fl : Nat → Int32) (κ0 : Nat → Nat) (δ0 : Nat → Nat → Nat) (κ1 : Nat → Nat) (δ1 : Nat → Nat → Nat) (ρ : Nat → Nat) (γ : Nat → Nat → Nat) (hI : Inv ρ) : CtI l yX5_save cX5_save 2 .int 2 81 [.ref xo, .int (nI 1)] [[(xo, .inr (4, [.ref h0, .ref h1, .ref hh, .ref sl, .ref sv, .ref tz, .ref az]))], aucW Y h0 ρ γ, [(sl, .inl (Y 4, 2, .inr (.inr (.inr (.inr (fun k => some (if k = 0 then a0 else a1)))))))], aucW Y a0 κ0 δ0, aucW Y a1 κ1 δ1, [(sv, .inl (Y 1, 2, .inl fl))]] (fun r sg => r = nI (ρ 0) ∧ sg = [[(xo, .inr (4, [.ref h0, .ref h1, .ref hh, .ref sl, .ref sv, .ref tz, .ref az]))], aucW Y h0 ρ γ, [(sl, .inl (Y 4, 2, .inr (.inr (.inr (.inr (fun k => some (if k = 0 then a0 else a1)))))))], aucW Y a0 κ0 δ0, aucW Y a1 ρ γ, [(sv, .inl (Y 1, 2, .inl (upd fl 1 (nI 1))))]]) G Y := by
  refine x_ofI (by decide) (Nat.le_of_ble_eq_true rfl) (fun p e s m args below meth c A ls Q M hK hZ hw hl hret => ?_)
  obtain ⟨hx, hb, -⟩ := id M
  have hl : lv_has ls 2 [(0, .ref xo), (1, .int (nI 1))] := hl
  have := hI.n6
  have := hI.over
  have := hI.keep
  have := hI.stepp
  refine lv_aload_n hx hb dX5_save_0 rfl (lv_at hl 0 rfl) ?_
  refine lv_iload_n hx hb dX5_save_1 rfl (lv_at hl 1 rfl) ?_
  refine x_cVV (As := [.int (nI 1)]) (k_X5_needSlot l G Y xo h0 h1 hh sl sv tz az 1 (by omega)) cw_X5_291 [0] 0 0 M hK hZ hw hl.1 rfl (by decide) rfl rfl rfl ⟨by decide, by decide⟩ ⟨Nat.zero_le _, Nat.zero_le _⟩ rfl rfl (Nat.le_of_ble_eq_true rfl) dX5_save_2 (fun sg h_1 H locs hw => ?_)
  obtain rfl := h_1
  have hw : xW G A s.heap [[(xo, .inr (4, [.ref h0, .ref h1, .ref hh, .ref sl, .ref sv, .ref tz, .ref az]))], aucW Y h0 ρ γ, [(sl, .inl (Y 4, 2, .inr (.inr (.inr (.inr (fun k => some (if k = 0 then a0 else a1)))))))], aucW Y a0 κ0 δ0, aucW Y a1 κ1 δ1, [(sv, .inl (Y 1, 2, .inl fl))]] H locs := hw
  refine lv_aload_n hx hb dX5_save_5 rfl (lv_at hl 0 rfl) ?_
  refine x_get M hK hw 0 0 rfl rfl ff_X5_26 rfl dX5_save_6 ?_
  refine lv_iload_n hx hb dX5_save_9 rfl (lv_at hl 1 rfl) ?_
  refine x_qald M hK hw 2 0 rfl rfl (by decide) (by decide) rfl dX5_save_10 ?_
  refine lv_aload_n hx hb dX5_save_11 rfl (lv_at hl 0 rfl) ?_
  refine x_get M hK hw 0 0 rfl rfl ff_X5_10 rfl dX5_save_12 ?_
  refine x_cVV (As := [.ref h0]) (k_X1_become l G Y a1 h0 κ1 δ1 ρ γ (hI)) cw_X5_260 [4, 1] 4 0 M hK hZ hw hl.1 rfl (by decide) rfl rfl rfl ⟨by decide, by decide⟩ ⟨Nat.zero_le _, Nat.zero_le _⟩ rfl rfl (Nat.le_of_ble_eq_true rfl) dX5_save_15 (fun sg h_2 H locs hw => ?_)
  obtain rfl := h_2
  have hw : xW G A s.heap [[(xo, .inr (4, [.ref h0, .ref h1, .ref hh, .ref sl, .ref sv, .ref tz, .ref az]))], aucW Y h0 ρ γ, [(sl, .inl (Y 4, 2, .inr (.inr (.inr (.inr (fun k => some (if k = 0 then a0 else a1)))))))], aucW Y a0 κ0 δ0, aucW Y a1 ρ γ, [(sv, .inl (Y 1, 2, .inl fl))]] H locs := hw
  refine lv_aload_n hx hb dX5_save_18 rfl (lv_at hl 0 rfl) ?_
  refine x_get M hK hw 0 0 rfl rfl ff_X5_30 rfl dX5_save_19 ?_
  refine lv_iload_n hx hb dX5_save_22 rfl (lv_at hl 1 rfl) ?_
  refine lv_iconst (v := (nI 1)) hx hb dX5_save_23 (by decide) ?_
  refine x_zast M hK hw 5 0 rfl rfl (by decide) (by decide) (by decide) dX5_save_24 (fun H locs hw => ?_)
  have hw : xW G A s.heap [[(xo, .inr (4, [.ref h0, .ref h1, .ref hh, .ref sl, .ref sv, .ref tz, .ref az]))], aucW Y h0 ρ γ, [(sl, .inl (Y 4, 2, .inr (.inr (.inr (.inr (fun k => some (if k = 0 then a0 else a1)))))))], aucW Y a0 κ0 δ0, aucW Y a1 ρ γ, [(sv, .inl (Y 1, 2, .inl (upd fl 1 (nI 1))))]] H locs := hw
  refine lv_aload_n hx hb dX5_save_25 rfl (lv_at hl 0 rfl) ?_
  refine x_get M hK hw 0 0 rfl rfl ff_X5_10 rfl dX5_save_26 ?_
  refine x_get M hK hw 1 0 rfl rfl ff_X5_95 rfl dX5_save_29 ?_
  exact hret _ _ _ (nI (ρ 0)) _ _ dX5_save_32 hw rfl rfl ⟨rfl, rfl⟩
set_option maxHeartbeats 4000000 in
set_option maxRecDepth 20000 in
theorem t_X5_save (l : Launch) (hfl : l.stackTraces = false) (G : va_G) (Y : Nat → Nat) (xo h0 h1 hh sl sv tz az : Nat) (k : Int32) (hk : (!inZ k.toInt 0 1) = true) : CtT l yX5_save cX5_save 2 (some .int) 7 103 [.ref xo, .int k] [[(xo, .inr (4, [.ref h0, .ref h1, .ref hh, .ref sl, .ref sv, .ref tz, .ref az]))]] eIOB G Y := by
  refine x_ofT (by decide) (Nat.le_of_ble_eq_true rfl) (fun p e s m args below meth c A ls Q M hK hZ hw hl htab hlk hQ => ?_)
  obtain ⟨hx, hb, -⟩ := id M
  have hl : lv_has ls 2 [(0, .ref xo), (1, .int k)] := hl
  refine lv_aload_n hx hb dX5_save_0 rfl (lv_at hl 0 rfl) ?_
  refine lv_iload_n hx hb dX5_save_1 rfl (lv_at hl 1 rfl) ?_
  exact x_cVT (As := [.int k]) (t_X5_needSlot l hfl G Y xo h0 h1 hh sl sv tz az k (by omega)) cw_X5_291 [0] 0 0 M hK hZ hw hl.1 rfl (by decide) rfl rfl rfl ⟨by decide, by decide⟩ ⟨by decide, by decide⟩ rfl rfl (Nat.le_of_ble_eq_true rfl) dX5_save_2 htab hlk hQ
set_option maxHeartbeats 4000000 in
set_option maxRecDepth 20000 in
theorem k_X5_restore_0 (l : Launch) (G : va_G) (Y : Nat → Nat) (xo h0 h1 hh sl sv tz az : Nat) (hb2 nx ct : Nat) (a0 a1 : Nat) (fl : Nat → Int32) (κ0 : Nat → Nat) (δ0 : Nat → Nat → Nat) (κ1 : Nat → Nat) (δ1 : Nat → Nat → Nat) (ρ : Nat → Nat) (γ : Nat → Nat → Nat) (hIk : Inv κ0) (hf : fl 0 = nI 1) : CtI l yX5_restore cX5_restore 2 .int 2 81 [.ref xo, .int (nI 0)] [[(xo, .inr (4, [.ref h0, .ref h1, .ref hh, .ref sl, .ref sv, .ref tz, .ref az]))], aucW Y h0 ρ γ, hisW Y hh hb2 nx ct, [(sl, .inl (Y 4, 2, .inr (.inr (.inr (.inr (fun k => some (if k = 0 then a0 else a1)))))))], aucW Y a0 κ0 δ0, aucW Y a1 κ1 δ1, [(sv, .inl (Y 1, 2, .inl fl))]] (fun r sg => r = nI (κ0 0) ∧ sg = [[(xo, .inr (4, [.ref h0, .ref h1, .ref hh, .ref sl, .ref sv, .ref tz, .ref az]))], aucW Y h0 κ0 δ0, hisW Y hh hb2 nx 0, [(sl, .inl (Y 4, 2, .inr (.inr (.inr (.inr (fun k => some (if k = 0 then a0 else a1)))))))], aucW Y a0 κ0 δ0, aucW Y a1 κ1 δ1, [(sv, .inl (Y 1, 2, .inl fl))]]) G Y := by
  refine x_ofI (by decide) (Nat.le_of_ble_eq_true rfl) (fun p e s m args below meth c A ls Q M hK hZ hw hl hret => ?_)
  obtain ⟨hx, hb, -⟩ := id M
  have hl : lv_has ls 2 [(0, .ref xo), (1, .int (nI 0))] := hl
  refine lv_aload_n hx hb dX5_restore_0 rfl (lv_at hl 0 rfl) ?_
  refine lv_iload_n hx hb dX5_restore_1 rfl (lv_at hl 1 rfl) ?_
  refine x_cVV (As := [.int (nI 0)]) (k_X5_needSlot l G Y xo h0 h1 hh sl sv tz az 0 (by omega)) cw_X5_291 [0] 0 0 M hK hZ hw hl.1 rfl (by decide) rfl rfl rfl ⟨by decide, by decide⟩ ⟨Nat.zero_le _, Nat.zero_le _⟩ rfl rfl (Nat.le_of_ble_eq_true rfl) dX5_restore_2 (fun sg h_1 H locs hw => ?_)
  obtain rfl := h_1
  have hw : xW G A s.heap [[(xo, .inr (4, [.ref h0, .ref h1, .ref hh, .ref sl, .ref sv, .ref tz, .ref az]))], aucW Y h0 ρ γ, hisW Y hh hb2 nx ct, [(sl, .inl (Y 4, 2, .inr (.inr (.inr (.inr (fun k => some (if k = 0 then a0 else a1)))))))], aucW Y a0 κ0 δ0, aucW Y a1 κ1 δ1, [(sv, .inl (Y 1, 2, .inl fl))]] H locs := hw
  refine lv_aload_n hx hb dX5_restore_5 rfl (lv_at hl 0 rfl) ?_
  refine x_get M hK hw 0 0 rfl rfl ff_X5_30 rfl dX5_restore_6 ?_
  refine lv_iload_n hx hb dX5_restore_9 rfl (lv_at hl 1 rfl) ?_
  refine x_zald M hK hw 6 0 rfl rfl (by decide) (by decide) dX5_restore_10 ?_
  refine x_topN (n := 1) hf ?_
  refine x_zne M (tgt := 25) (by decide) dX5_restore_11 (by decide) (fun c_2 => ?_) (fun c_2 => absurd c_2 (by decide))
  refine lv_aload_n hx hb dX5_restore_25 rfl (lv_at hl 0 rfl) ?_
  refine x_get M hK hw 0 0 rfl rfl ff_X5_10 rfl dX5_restore_26 ?_
  refine lv_aload_n hx hb dX5_restore_29 rfl (lv_at hl 0 rfl) ?_
  refine x_get M hK hw 0 0 rfl rfl ff_X5_26 rfl dX5_restore_30 ?_
  refine lv_iload_n hx hb dX5_restore_33 rfl (lv_at hl 1 rfl) ?_
  refine x_qald M hK hw 3 0 rfl rfl (by decide) (by decide) rfl dX5_restore_34 ?_
  refine x_cVV (As := [.ref a0]) (k_X1_become l G Y h0 a0 ρ γ κ0 δ0 (hIk)) cw_X5_260 [1, 4] 1 0 M hK hZ hw hl.1 rfl (by decide) rfl rfl rfl ⟨by decide, by decide⟩ ⟨Nat.zero_le _, Nat.zero_le _⟩ rfl rfl (Nat.le_of_ble_eq_true rfl) dX5_restore_35 (fun sg h_3 H locs hw => ?_)
  obtain rfl := h_3
  have hw : xW G A s.heap [[(xo, .inr (4, [.ref h0, .ref h1, .ref hh, .ref sl, .ref sv, .ref tz, .ref az]))], aucW Y h0 κ0 δ0, hisW Y hh hb2 nx ct, [(sl, .inl (Y 4, 2, .inr (.inr (.inr (.inr (fun k => some (if k = 0 then a0 else a1)))))))], aucW Y a0 κ0 δ0, aucW Y a1 κ1 δ1, [(sv, .inl (Y 1, 2, .inl fl))]] H locs := hw
  refine lv_aload_n hx hb dX5_restore_38 rfl (lv_at hl 0 rfl) ?_
  refine x_get M hK hw 0 0 rfl rfl ff_X5_22 rfl dX5_restore_39 ?_
  refine x_cVV (As := []) (k_X2_forgetAll l G Y hh hb2 nx ct) cw_X5_84 [2] 2 0 M hK hZ hw hl.1 rfl (by decide) rfl rfl rfl ⟨by decide, by decide⟩ ⟨Nat.zero_le _, Nat.zero_le _⟩ rfl rfl (Nat.le_of_ble_eq_true rfl) dX5_restore_42 (fun sg h_4 H locs hw => ?_)
  obtain rfl := h_4
  have hw : xW G A s.heap [[(xo, .inr (4, [.ref h0, .ref h1, .ref hh, .ref sl, .ref sv, .ref tz, .ref az]))], aucW Y h0 κ0 δ0, hisW Y hh hb2 nx 0, [(sl, .inl (Y 4, 2, .inr (.inr (.inr (.inr (fun k => some (if k = 0 then a0 else a1)))))))], aucW Y a0 κ0 δ0, aucW Y a1 κ1 δ1, [(sv, .inl (Y 1, 2, .inl fl))]] H locs := hw
  refine lv_aload_n hx hb dX5_restore_45 rfl (lv_at hl 0 rfl) ?_
  refine x_get M hK hw 0 0 rfl rfl ff_X5_10 rfl dX5_restore_46 ?_
  refine x_get M hK hw 1 0 rfl rfl ff_X5_95 rfl dX5_restore_49 ?_
  exact hret _ _ _ (nI (κ0 0)) _ _ dX5_restore_52 hw rfl rfl ⟨rfl, rfl⟩
set_option maxHeartbeats 4000000 in
set_option maxRecDepth 20000 in
theorem t_X5_restore_0 (l : Launch) (hfl : l.stackTraces = false) (G : va_G) (Y : Nat → Nat) (xo h0 h1 hh sl sv tz az : Nat) (fl : Nat → Int32) (hf : fl 0 = nI 0) : CtT l yX5_restore cX5_restore 2 (some .int) 6 82 [.ref xo, .int (nI 0)] [[(xo, .inr (4, [.ref h0, .ref h1, .ref hh, .ref sl, .ref sv, .ref tz, .ref az]))], [(sv, .inl (Y 1, 2, .inl fl))]] eISE G Y := by
  refine x_ofT (by decide) (Nat.le_of_ble_eq_true rfl) (fun p e s m args below meth c A ls Q M hK hZ hw hl htab hlk hQ => ?_)
  obtain ⟨hx, hb, -⟩ := id M
  have hl : lv_has ls 2 [(0, .ref xo), (1, .int (nI 0))] := hl
  refine lv_aload_n hx hb dX5_restore_0 rfl (lv_at hl 0 rfl) ?_
  refine lv_iload_n hx hb dX5_restore_1 rfl (lv_at hl 1 rfl) ?_
  refine x_cVV (As := [.int (nI 0)]) (k_X5_needSlot l G Y xo h0 h1 hh sl sv tz az 0 (by omega)) cw_X5_291 [0] 0 0 M hK hZ hw hl.1 rfl (by decide) rfl rfl rfl ⟨by decide, by decide⟩ ⟨Nat.zero_le _, Nat.zero_le _⟩ rfl rfl (Nat.le_of_ble_eq_true rfl) dX5_restore_2 (fun sg h_1 H locs hw => ?_)
  obtain rfl := h_1
  have hw : xW G A s.heap [[(xo, .inr (4, [.ref h0, .ref h1, .ref hh, .ref sl, .ref sv, .ref tz, .ref az]))], [(sv, .inl (Y 1, 2, .inl fl))]] H locs := hw
  refine lv_aload_n hx hb dX5_restore_5 rfl (lv_at hl 0 rfl) ?_
  refine x_get M hK hw 0 0 rfl rfl ff_X5_30 rfl dX5_restore_6 ?_
  refine lv_iload_n hx hb dX5_restore_9 rfl (lv_at hl 1 rfl) ?_
  refine x_zald M hK hw 1 0 rfl rfl (by decide) (by decide) dX5_restore_10 ?_
  refine x_topN (n := 0) hf ?_
  refine x_zne M (tgt := 25) (by decide) dX5_restore_11 (by decide) (fun c_2 => absurd c_2 (by decide)) (fun c_2 => ?_)
  exact x_throwSW (own := RX5) (ik := 63) (ic := 67) (is := 294) (q := 230) (text := "nothing has been saved there") hfl M hK hZ hw hl.1 htab hlk hQ thr_ISE (by simp [xStr]) dX5_restore_14 dX5_restore_17 dX5_restore_18 dX5_restore_21 dX5_restore_24 ⟨by decide, by decide, by decide, by decide⟩
set_option maxHeartbeats 4000000 in
set_option maxRecDepth 20000 in
theorem k_X5_restore_1 (l : Launch) (G : va_G) (Y : Nat → Nat) (xo h0 h1 hh sl sv tz az : Nat) (hb2 nx ct : Nat) (a0 a1 : Nat) (fl : Nat → Int32) (κ0 : Nat → Nat) (δ0 : Nat → Nat → Nat) (κ1 : Nat → Nat) (δ1 : Nat → Nat → Nat) (ρ : Nat → Nat) (γ : Nat → Nat → Nat) (hIk : Inv κ1) (hf : fl 1 = nI 1) : CtI l yX5_restore cX5_restore 2 .int 2 81 [.ref xo, .int (nI 1)] [[(xo, .inr (4, [.ref h0, .ref h1, .ref hh, .ref sl, .ref sv, .ref tz, .ref az]))], aucW Y h0 ρ γ, hisW Y hh hb2 nx ct, [(sl, .inl (Y 4, 2, .inr (.inr (.inr (.inr (fun k => some (if k = 0 then a0 else a1)))))))], aucW Y a0 κ0 δ0, aucW Y a1 κ1 δ1, [(sv, .inl (Y 1, 2, .inl fl))]] (fun r sg => r = nI (κ1 0) ∧ sg = [[(xo, .inr (4, [.ref h0, .ref h1, .ref hh, .ref sl, .ref sv, .ref tz, .ref az]))], aucW Y h0 κ1 δ1, hisW Y hh hb2 nx 0, [(sl, .inl (Y 4, 2, .inr (.inr (.inr (.inr (fun k => some (if k = 0 then a0 else a1)))))))], aucW Y a0 κ0 δ0, aucW Y a1 κ1 δ1, [(sv, .inl (Y 1, 2, .inl fl))]]) G Y := by
  refine x_ofI (by decide) (Nat.le_of_ble_eq_true rfl) (fun p e s m args below meth c A ls Q M hK hZ hw hl hret => ?_)
  obtain ⟨hx, hb, -⟩ := id M
  have hl : lv_has ls 2 [(0, .ref xo), (1, .int (nI 1))] := hl
  refine lv_aload_n hx hb dX5_restore_0 rfl (lv_at hl 0 rfl) ?_
  refine lv_iload_n hx hb dX5_restore_1 rfl (lv_at hl 1 rfl) ?_
  refine x_cVV (As := [.int (nI 1)]) (k_X5_needSlot l G Y xo h0 h1 hh sl sv tz az 1 (by omega)) cw_X5_291 [0] 0 0 M hK hZ hw hl.1 rfl (by decide) rfl rfl rfl ⟨by decide, by decide⟩ ⟨Nat.zero_le _, Nat.zero_le _⟩ rfl rfl (Nat.le_of_ble_eq_true rfl) dX5_restore_2 (fun sg h_1 H locs hw => ?_)
  obtain rfl := h_1
  have hw : xW G A s.heap [[(xo, .inr (4, [.ref h0, .ref h1, .ref hh, .ref sl, .ref sv, .ref tz, .ref az]))], aucW Y h0 ρ γ, hisW Y hh hb2 nx ct, [(sl, .inl (Y 4, 2, .inr (.inr (.inr (.inr (fun k => some (if k = 0 then a0 else a1)))))))], aucW Y a0 κ0 δ0, aucW Y a1 κ1 δ1, [(sv, .inl (Y 1, 2, .inl fl))]] H locs := hw
  refine lv_aload_n hx hb dX5_restore_5 rfl (lv_at hl 0 rfl) ?_
  refine x_get M hK hw 0 0 rfl rfl ff_X5_30 rfl dX5_restore_6 ?_
  refine lv_iload_n hx hb dX5_restore_9 rfl (lv_at hl 1 rfl) ?_
  refine x_zald M hK hw 6 0 rfl rfl (by decide) (by decide) dX5_restore_10 ?_
  refine x_topN (n := 1) hf ?_
  refine x_zne M (tgt := 25) (by decide) dX5_restore_11 (by decide) (fun c_2 => ?_) (fun c_2 => absurd c_2 (by decide))
  refine lv_aload_n hx hb dX5_restore_25 rfl (lv_at hl 0 rfl) ?_
  refine x_get M hK hw 0 0 rfl rfl ff_X5_10 rfl dX5_restore_26 ?_
  refine lv_aload_n hx hb dX5_restore_29 rfl (lv_at hl 0 rfl) ?_
  refine x_get M hK hw 0 0 rfl rfl ff_X5_26 rfl dX5_restore_30 ?_
  refine lv_iload_n hx hb dX5_restore_33 rfl (lv_at hl 1 rfl) ?_
  refine x_qald M hK hw 3 0 rfl rfl (by decide) (by decide) rfl dX5_restore_34 ?_
  refine x_cVV (As := [.ref a1]) (k_X1_become l G Y h0 a1 ρ γ κ1 δ1 (hIk)) cw_X5_260 [1, 5] 1 0 M hK hZ hw hl.1 rfl (by decide) rfl rfl rfl ⟨by decide, by decide⟩ ⟨Nat.zero_le _, Nat.zero_le _⟩ rfl rfl (Nat.le_of_ble_eq_true rfl) dX5_restore_35 (fun sg h_3 H locs hw => ?_)
  obtain rfl := h_3
  have hw : xW G A s.heap [[(xo, .inr (4, [.ref h0, .ref h1, .ref hh, .ref sl, .ref sv, .ref tz, .ref az]))], aucW Y h0 κ1 δ1, hisW Y hh hb2 nx ct, [(sl, .inl (Y 4, 2, .inr (.inr (.inr (.inr (fun k => some (if k = 0 then a0 else a1)))))))], aucW Y a0 κ0 δ0, aucW Y a1 κ1 δ1, [(sv, .inl (Y 1, 2, .inl fl))]] H locs := hw
  refine lv_aload_n hx hb dX5_restore_38 rfl (lv_at hl 0 rfl) ?_
  refine x_get M hK hw 0 0 rfl rfl ff_X5_22 rfl dX5_restore_39 ?_
  refine x_cVV (As := []) (k_X2_forgetAll l G Y hh hb2 nx ct) cw_X5_84 [2] 2 0 M hK hZ hw hl.1 rfl (by decide) rfl rfl rfl ⟨by decide, by decide⟩ ⟨Nat.zero_le _, Nat.zero_le _⟩ rfl rfl (Nat.le_of_ble_eq_true rfl) dX5_restore_42 (fun sg h_4 H locs hw => ?_)
  obtain rfl := h_4
  have hw : xW G A s.heap [[(xo, .inr (4, [.ref h0, .ref h1, .ref hh, .ref sl, .ref sv, .ref tz, .ref az]))], aucW Y h0 κ1 δ1, hisW Y hh hb2 nx 0, [(sl, .inl (Y 4, 2, .inr (.inr (.inr (.inr (fun k => some (if k = 0 then a0 else a1)))))))], aucW Y a0 κ0 δ0, aucW Y a1 κ1 δ1, [(sv, .inl (Y 1, 2, .inl fl))]] H locs := hw
  refine lv_aload_n hx hb dX5_restore_45 rfl (lv_at hl 0 rfl) ?_
  refine x_get M hK hw 0 0 rfl rfl ff_X5_10 rfl dX5_restore_46 ?_
  refine x_get M hK hw 1 0 rfl rfl ff_X5_95 rfl dX5_restore_49 ?_
  exact hret _ _ _ (nI (κ1 0)) _ _ dX5_restore_52 hw rfl rfl ⟨rfl, rfl⟩
set_option maxHeartbeats 4000000 in
set_option maxRecDepth 20000 in
theorem t_X5_restore_1 (l : Launch) (hfl : l.stackTraces = false) (G : va_G) (Y : Nat → Nat) (xo h0 h1 hh sl sv tz az : Nat) (fl : Nat → Int32) (hf : fl 1 = nI 0) : CtT l yX5_restore cX5_restore 2 (some .int) 6 82 [.ref xo, .int (nI 1)] [[(xo, .inr (4, [.ref h0, .ref h1, .ref hh, .ref sl, .ref sv, .ref tz, .ref az]))], [(sv, .inl (Y 1, 2, .inl fl))]] eISE G Y := by
  refine x_ofT (by decide) (Nat.le_of_ble_eq_true rfl) (fun p e s m args below meth c A ls Q M hK hZ hw hl htab hlk hQ => ?_)
  obtain ⟨hx, hb, -⟩ := id M
  have hl : lv_has ls 2 [(0, .ref xo), (1, .int (nI 1))] := hl
  refine lv_aload_n hx hb dX5_restore_0 rfl (lv_at hl 0 rfl) ?_
  refine lv_iload_n hx hb dX5_restore_1 rfl (lv_at hl 1 rfl) ?_
  refine x_cVV (As := [.int (nI 1)]) (k_X5_needSlot l G Y xo h0 h1 hh sl sv tz az 1 (by omega)) cw_X5_291 [0] 0 0 M hK hZ hw hl.1 rfl (by decide) rfl rfl rfl ⟨by decide, by decide⟩ ⟨Nat.zero_le _, Nat.zero_le _⟩ rfl rfl (Nat.le_of_ble_eq_true rfl) dX5_restore_2 (fun sg h_1 H locs hw => ?_)
  obtain rfl := h_1
  have hw : xW G A s.heap [[(xo, .inr (4, [.ref h0, .ref h1, .ref hh, .ref sl, .ref sv, .ref tz, .ref az]))], [(sv, .inl (Y 1, 2, .inl fl))]] H locs := hw
  refine lv_aload_n hx hb dX5_restore_5 rfl (lv_at hl 0 rfl) ?_
  refine x_get M hK hw 0 0 rfl rfl ff_X5_30 rfl dX5_restore_6 ?_
  refine lv_iload_n hx hb dX5_restore_9 rfl (lv_at hl 1 rfl) ?_
  refine x_zald M hK hw 1 0 rfl rfl (by decide) (by decide) dX5_restore_10 ?_
  refine x_topN (n := 0) hf ?_
  refine x_zne M (tgt := 25) (by decide) dX5_restore_11 (by decide) (fun c_2 => absurd c_2 (by decide)) (fun c_2 => ?_)
  exact x_throwSW (own := RX5) (ik := 63) (ic := 67) (is := 294) (q := 230) (text := "nothing has been saved there") hfl M hK hZ hw hl.1 htab hlk hQ thr_ISE (by simp [xStr]) dX5_restore_14 dX5_restore_17 dX5_restore_18 dX5_restore_21 dX5_restore_24 ⟨by decide, by decide, by decide, by decide⟩
set_option maxHeartbeats 4000000 in
set_option maxRecDepth 20000 in
theorem t_X5_restore (l : Launch) (hfl : l.stackTraces = false) (G : va_G) (Y : Nat → Nat) (xo h0 h1 hh sl sv tz az : Nat) (k : Int32) (hk : (!inZ k.toInt 0 1) = true) : CtT l yX5_restore cX5_restore 2 (some .int) 7 103 [.ref xo, .int k] [[(xo, .inr (4, [.ref h0, .ref h1, .ref hh, .ref sl, .ref sv, .ref tz, .ref az]))]] eIOB G Y := by
  refine x_ofT (by decide) (Nat.le_of_ble_eq_true rfl) (fun p e s m args below meth c A ls Q M hK hZ hw hl htab hlk hQ => ?_)
  obtain ⟨hx, hb, -⟩ := id M
  have hl : lv_has ls 2 [(0, .ref xo), (1, .int k)] := hl
  refine lv_aload_n hx hb dX5_restore_0 rfl (lv_at hl 0 rfl) ?_
  refine lv_iload_n hx hb dX5_restore_1 rfl (lv_at hl 1 rfl) ?_
  exact x_cVT (As := [.int k]) (t_X5_needSlot l hfl G Y xo h0 h1 hh sl sv tz az k (by omega)) cw_X5_291 [0] 0 0 M hK hZ hw hl.1 rfl (by decide) rfl rfl rfl ⟨by decide, by decide⟩ ⟨by decide, by decide⟩ rfl rfl (Nat.le_of_ble_eq_true rfl) dX5_restore_2 htab hlk hQ
