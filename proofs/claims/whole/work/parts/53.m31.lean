set_option maxHeartbeats 4000000 in
set_option maxRecDepth 20000 in
theorem k_X6_runScript (l : Launch) (G : va_G) (Y : Nat → Nat) (mo rf tx sz nw tr dy ac kp ik td ch sp ou : Nat) (ρ : Nat → Nat) (φ : Nat → Nat) (n sn : Nat) (hI : Inv ρ) (hs : (n = 1 ∧ sn < 100000) ∨ (n = 2 ∧ sn < 10000000000) ∨ (n = 3 ∧ sn < 1000000000000000)) : CtI l yX6_runScript cX6_runScript 8 .int 6 137 [.ref mo, .int (nI n), .long (lN sn)] [[(mo, .inr (5, [.int (nI rf), .ref tx, .int (nI sz), .ref nw, .ref tr, .ref dy, .int (nI ac), .ref kp, .ref ik, .ref td, .ref ch, .int (nI sp), .int (nI ou)]))], [(nw, .inl (Y 0, 140, .inl (rowF ρ)))], [(tr, .inl (Y 0, 140, .inl (rowF φ)))]] (fun r sg => r = rsV ρ n sn ∧ ∃ (σ' : Nat → Nat), sg = [[(mo, .inr (5, [.int (nI 0), .ref tx, .int (nI sz), .ref nw, .ref tr, .ref dy, .int (nI ac), .ref kp, .ref ik, .ref td, .ref ch, .int (nI sp), .int (nI ou)]))], [(nw, .inl (Y 0, 140, .inl (rowF ρ)))], [(tr, .inl (Y 0, 140, .inl (rowF σ')))]]) G Y := by
  refine x_ofI (by decide) (Nat.le_of_ble_eq_true rfl) (fun p e s m args below meth c A ls Q M hK hZ hw hl hret => ?_)
  obtain ⟨hx, hb, -⟩ := id M
  have hl : lv_has ls 8 [(0, .ref mo), (1, .int (nI n)), (2, .long (lN sn))] := hl
  have := hI.n6
  have := hI.over
  have := hI.keep
  have := hI.stepp
  rcases hs with ⟨rfl, hs⟩ | ⟨rfl, hs⟩ | ⟨rfl, hs⟩
  · refine lv_lconst (v := 1) hx hb dX6_runScript_0 (by decide) ?_
    refine x_topL (y := (lN 1)) rfl ?_
    refine lv_lstore (lv' := [(4, .long (lN 1)), (0, .ref mo), (1, .int (nI 1)), (2, .long (lN sn))]) hx hb dX6_runScript_1 hl (by decide) rfl (fun ls hl => ?_)
    refine lv_iconst (v := (nI 0)) hx hb dX6_runScript_3 (by decide) ?_
    refine lv_istore (lv' := [(6, .int (nI 0)), (4, .long (lN 1)), (0, .ref mo), (1, .int (nI 1)), (2, .long (lN sn))]) hx hb dX6_runScript_4 hl (by decide) rfl (fun ls hl => ?_)
    refine lv_iload hx hb dX6_runScript_6 (lv_at hl 0 rfl) ?_
    refine lv_iload_n hx hb dX6_runScript_8 rfl (lv_at hl 3 rfl) ?_
    refine x_cge M (tgt := 32) (by decide) (by decide) dX6_runScript_9 (by decide) (fun c_1 => absurd c_1 (by decide)) (fun c_1 => ?_)
    refine lv_iload hx hb dX6_runScript_12 (lv_at hl 0 rfl) ?_
    refine lv_iconst (v := (nI 3)) hx hb dX6_runScript_14 (by decide) ?_
    refine x_cge M (tgt := 32) (by decide) (by decide) dX6_runScript_15 (by decide) (fun c_2 => absurd c_2 (by decide)) (fun c_2 => ?_)
    refine lv_lload hx hb dX6_runScript_18 (lv_at hl 1 rfl) ?_
    refine lv_ldc2 (v := 100000) hx hb M.2.2.2.1 (M.2.2.2.2 _ mw_1289) dX6_runScript_20 ?_
    refine lv_lmul hx hb dX6_runScript_23 ?_
    refine x_topL (y := (lN 100000)) rfl ?_
    refine lv_lstore (lv' := [(4, .long (lN 100000)), (6, .int (nI 0)), (0, .ref mo), (1, .int (nI 1)), (2, .long (lN sn))]) hx hb dX6_runScript_24 hl (by decide) rfl (fun ls hl => ?_)
    refine lv_iinc (v := (nI 1)) (lv' := [(6, .int (nI 1)), (4, .long (lN 100000)), (0, .ref mo), (1, .int (nI 1)), (2, .long (lN sn))]) hx hb dX6_runScript_26 hl (k := 1) rfl (by decide) (by decide) rfl (fun ls hl => ?_)
    refine lv_goto (tgt := 6) hx hb dX6_runScript_29 (by decide) ?_
    refine lv_iload hx hb dX6_runScript_6 (lv_at hl 0 rfl) ?_
    refine lv_iload_n hx hb dX6_runScript_8 rfl (lv_at hl 3 rfl) ?_
    refine x_cge M (tgt := 32) (by decide) (by decide) dX6_runScript_9 (by decide) (fun c_3 => ?_) (fun c_3 => absurd c_3 (by decide))
    refine lv_aload_n hx hb dX6_runScript_32 rfl (lv_at hl 2 rfl) ?_
    refine lv_iload_n hx hb dX6_runScript_33 rfl (lv_at hl 3 rfl) ?_
    refine lv_i2l (v := (nI 1).toInt64) hx hb dX6_runScript_34 rfl ?_
    refine lv_lconst (v := 1) hx hb dX6_runScript_35 (by decide) ?_
    refine lv_ldc2 (v := 3) hx hb M.2.2.2.1 (M.2.2.2.2 _ mw_1157) dX6_runScript_36 ?_
    refine x_cSI (As := [.long ((nI 1).toInt64), .long 1, .long 3]) (k_X6_in l G Y ((nI 1).toInt64) 1 3) cw_X6_45 [] M hK hZ hw hl.1 rfl (by decide) ⟨by decide, by decide⟩ ⟨Nat.zero_le _, Nat.zero_le _⟩ rfl rfl (Nat.le_of_ble_eq_true rfl) dX6_runScript_39 (fun r sg h_4 H locs hw => ?_)
    obtain ⟨rfl, rfl⟩ := h_4
    have hw : xW G A s.heap [[(mo, .inr (5, [.int (nI rf), .ref tx, .int (nI sz), .ref nw, .ref tr, .ref dy, .int (nI ac), .ref kp, .ref ik, .ref td, .ref ch, .int (nI sp), .int (nI ou)]))], [(nw, .inl (Y 0, 140, .inl (rowF ρ)))], [(tr, .inl (Y 0, 140, .inl (rowF φ)))]] H locs := hw
    refine x_topI (y := b2i (inZ (nI 1).toInt 1 3)) (by rw [Int32.toInt_toInt64]; rfl) ?_
    refine x_beq M (tgt := 61) dX6_runScript_42 (by decide) (fun c_5 => absurd c_5 (fun z => pzF (a := 1) (b := 3) z (by decide) ⟨by decide, by decide⟩)) (fun c_5 => ?_)
    refine lv_lload_n hx hb dX6_runScript_45 rfl (lv_at hl 4 rfl) ?_
    refine lv_lconst (v := 0) hx hb dX6_runScript_46 (by decide) ?_
    refine lv_lload hx hb dX6_runScript_47 (lv_at hl 1 rfl) ?_
    refine lv_lconst (v := 1) hx hb dX6_runScript_49 (by decide) ?_
    refine lv_lsub hx hb dX6_runScript_50 ?_
    refine x_cSI (As := [.long (lN sn), .long 0, .long ((lN 100000) - 1)]) (k_X6_in l G Y (lN sn) 0 ((lN 100000) - 1)) cw_X6_45 [] M hK hZ hw hl.1 rfl (by decide) ⟨by decide, by decide⟩ ⟨Nat.zero_le _, Nat.zero_le _⟩ rfl rfl (Nat.le_of_ble_eq_true rfl) dX6_runScript_51 (fun r sg h_6 H locs hw => ?_)
    obtain ⟨rfl, rfl⟩ := h_6
    have hw : xW G A s.heap [[(mo, .inr (5, [.int (nI rf), .ref tx, .int (nI sz), .ref nw, .ref tr, .ref dy, .int (nI ac), .ref kp, .ref ik, .ref td, .ref ch, .int (nI sp), .int (nI ou)]))], [(nw, .inl (Y 0, 140, .inl (rowF ρ)))], [(tr, .inl (Y 0, 140, .inl (rowF φ)))]] H locs := hw
    refine x_topI (y := b2i (inZ (lN sn).toInt 0 99999)) rfl ?_
    refine x_beq M (tgt := 61) dX6_runScript_54 (by decide) (fun c_7 => absurd c_7 (fun z => by have h9 : inZ (lN sn).toInt 0 99999 = false := z; rw [lNt (by omega)] at h9; exact of_decide_eq_false h9 ⟨by omega, by omega⟩)) (fun c_7 => ?_)
    refine lv_iconst (v := (nI 0)) hx hb dX6_runScript_57 (by decide) ?_
    refine lv_goto (tgt := 62) hx hb dX6_runScript_58 (by decide) ?_
    refine x_cVI (As := [.int (nI 0)]) (k_X6_refused l G Y mo rf tx sz nw tr dy ac kp ik td ch sp ou 0 (by omega)) cw_X6_103 [0] 0 0 M hK hZ hw hl.1 rfl (by decide) rfl rfl rfl ⟨by decide, by decide⟩ ⟨Nat.zero_le _, Nat.zero_le _⟩ rfl rfl (Nat.le_of_ble_eq_true rfl) dX6_runScript_62 (fun r sg h_8 H locs hw => ?_)
    obtain ⟨rfl, rfl⟩ := h_8
    have hw : xW G A s.heap [[(mo, .inr (5, [.int (nI 0), .ref tx, .int (nI sz), .ref nw, .ref tr, .ref dy, .int (nI ac), .ref kp, .ref ik, .ref td, .ref ch, .int (nI sp), .int (nI ou)]))], [(nw, .inl (Y 0, 140, .inl (rowF ρ)))], [(tr, .inl (Y 0, 140, .inl (rowF φ)))]] H locs := hw
    refine x_beq M (tgt := 70) dX6_runScript_65 (by decide) (fun c_9 => ?_) (fun c_9 => absurd c_9 (fun z => by first | exact absurd z (by decide) | (have := of_decide_eq_true z; omega) | (have := of_decide_eq_false z; omega)))
    refine lv_aload_n hx hb dX6_runScript_70 rfl (lv_at hl 2 rfl) ?_
    refine x_get M hK hw 0 0 rfl rfl ff_X6_13 rfl dX6_runScript_71 ?_
    refine lv_iconst (v := (nI 0)) hx hb dX6_runScript_74 (by decide) ?_
    refine lv_aload_n hx hb dX6_runScript_75 rfl (lv_at hl 2 rfl) ?_
    refine x_get M hK hw 0 0 rfl rfl ff_X6_16 rfl dX6_runScript_76 ?_
    refine lv_iconst (v := (nI 0)) hx hb dX6_runScript_79 (by decide) ?_
    refine x_cSV (As := [.ref nw, .int (nI 0), .ref tr, .int (nI 0)]) (k_X6_copyState l G Y nw tr 140 140 0 0 ρ φ (by omega) (by omega) (by omega) (by omega)) cw_X6_154 [1, 2] M hK hZ hw hl.1 rfl (by decide) ⟨by decide, by decide⟩ ⟨Nat.zero_le _, Nat.zero_le _⟩ rfl rfl (Nat.le_of_ble_eq_true rfl) dX6_runScript_80 (fun sg h_10 H locs hw => ?_)
    obtain rfl := h_10
    have hw : xW G A s.heap [[(mo, .inr (5, [.int (nI 0), .ref tx, .int (nI sz), .ref nw, .ref tr, .ref dy, .int (nI ac), .ref kp, .ref ik, .ref td, .ref ch, .int (nI sp), .int (nI ou)]))], [(nw, .inl (Y 0, 140, .inl (rowF ρ)))], [(tr, .inl (Y 0, 140, .inl (rowF (cpS ρ φ 0 0 140))))]] H locs := hw
    have hw := row_fold (i := 2) (f' := rowF ρ) hw rfl (fun q hq => congrArg nI (by clear hret hw hl M hK hZ hx hb; have h9 := cpS_in (f := ρ) (g := φ) (fa := 0) (ta := 0) (k := q) (m := 140) hq; simp only [Nat.zero_add] at h9; exact h9.symm))
    have hw : xW G A s.heap [[(mo, .inr (5, [.int (nI 0), .ref tx, .int (nI sz), .ref nw, .ref tr, .ref dy, .int (nI ac), .ref kp, .ref ik, .ref td, .ref ch, .int (nI sp), .int (nI ou)]))], [(nw, .inl (Y 0, 140, .inl (rowF ρ)))], [(tr, .inl (Y 0, 140, .inl (rowF ρ)))]] H locs := hw
    refine lv_iconst (v := (nI 0)) hx hb dX6_runScript_83 (by decide) ?_
    refine lv_istore (lv' := [(6, .int (nI 0)), (4, .long (lN 100000)), (0, .ref mo), (1, .int (nI 1)), (2, .long (lN sn))]) hx hb dX6_runScript_84 hl (by decide) rfl (fun ls hl => ?_)
    refine lv_iload hx hb dX6_runScript_86 (lv_at hl 0 rfl) ?_
    refine lv_iload_n hx hb dX6_runScript_88 rfl (lv_at hl 3 rfl) ?_
    refine x_cge M (tgt := 163) (by decide) (by decide) dX6_runScript_89 (by decide) (fun c_11 => absurd c_11 (by decide)) (fun c_11 => ?_)
    refine lv_lload hx hb dX6_runScript_92 (lv_at hl 1 rfl) ?_
    refine lv_ldc2 (v := 100000) hx hb M.2.2.2.1 (M.2.2.2.2 _ mw_1289) dX6_runScript_94 ?_
    refine lv_ldiv hx hb dX6_runScript_97 (by decide) ?_
    refine x_topL (y := (lN 1)) rfl ?_
    refine lv_lstore (lv' := [(4, .long (lN 1)), (6, .int (nI 0)), (0, .ref mo), (1, .int (nI 1)), (2, .long (lN sn))]) hx hb dX6_runScript_98 hl (by decide) rfl (fun ls hl => ?_)
    refine lv_lload_n hx hb dX6_runScript_100 rfl (lv_at hl 4 rfl) ?_
    refine lv_lload hx hb dX6_runScript_101 (lv_at hl 0 rfl) ?_
    refine lv_ldiv hx hb dX6_runScript_103 (by decide) ?_
    refine x_topL (y := (lN (sn / 1))) (lN_div (b := 1) (by omega) (by decide)) ?_
    refine lv_ldc2 (v := 100000) hx hb M.2.2.2.1 (M.2.2.2.2 _ mw_1289) dX6_runScript_104 ?_
    refine lv_lrem hx hb dX6_runScript_107 (by decide) ?_
    refine x_topL (y := (lN (sn / 1 % 100000))) (lN_rem (b := 100000) (by omega) (by decide)) ?_
    refine lv_l2i (v := ((lN (sn / 1 % 100000))).toInt32) hx hb dX6_runScript_108 rfl ?_
    refine x_topN (n := (sn / 1 % 100000)) lN_i9 ?_
    refine lv_istore (lv' := [(7, .int (nI (sn / 1 % 100000))), (4, .long (lN 1)), (6, .int (nI 0)), (0, .ref mo), (1, .int (nI 1)), (2, .long (lN sn))]) hx hb dX6_runScript_109 hl (by decide) rfl (fun ls hl => ?_)
    refine lv_aload_n hx hb dX6_runScript_111 rfl (lv_at hl 3 rfl) ?_
    refine lv_iload hx hb dX6_runScript_112 (lv_at hl 0 rfl) ?_
    refine lv_sipush (v := (nI 10000)) hx hb dX6_runScript_114 (by decide) ?_
    refine x_idiv M (n := (sn / 1 % 100000) / 10000) dX6_runScript_117 (by omega) (by omega) (by decide) rfl ?_
    refine lv_iload hx hb dX6_runScript_118 (lv_at hl 0 rfl) ?_
    refine lv_sipush (v := (nI 1000)) hx hb dX6_runScript_120 (by decide) ?_
    refine x_idiv M (n := (sn / 1 % 100000) / 1000) dX6_runScript_123 (by omega) (by omega) (by decide) rfl ?_
    refine lv_bipush (v := (nI 10)) hx hb dX6_runScript_124 (by decide) ?_
    refine x_irem M (n := ((sn / 1 % 100000) / 1000) % 10) dX6_runScript_126 (by omega) (by omega) (by decide) rfl ?_
    refine lv_iload hx hb dX6_runScript_127 (lv_at hl 0 rfl) ?_
    refine lv_bipush (v := (nI 100)) hx hb dX6_runScript_129 (by decide) ?_
    refine x_idiv M (n := (sn / 1 % 100000) / 100) dX6_runScript_131 (by omega) (by omega) (by decide) rfl ?_
    refine lv_bipush (v := (nI 10)) hx hb dX6_runScript_132 (by decide) ?_
    refine x_irem M (n := ((sn / 1 % 100000) / 100) % 10) dX6_runScript_134 (by omega) (by omega) (by decide) rfl ?_
    refine lv_iload hx hb dX6_runScript_135 (lv_at hl 0 rfl) ?_
    refine lv_bipush (v := (nI 10)) hx hb dX6_runScript_137 (by decide) ?_
    refine x_idiv M (n := (sn / 1 % 100000) / 10) dX6_runScript_139 (by omega) (by omega) (by decide) rfl ?_
    refine lv_bipush (v := (nI 10)) hx hb dX6_runScript_140 (by decide) ?_
    refine x_irem M (n := ((sn / 1 % 100000) / 10) % 10) dX6_runScript_142 (by omega) (by omega) (by decide) rfl ?_
    refine lv_iload hx hb dX6_runScript_143 (lv_at hl 0 rfl) ?_
    refine lv_bipush (v := (nI 10)) hx hb dX6_runScript_145 (by decide) ?_
    refine x_irem M (n := (sn / 1 % 100000) % 10) dX6_runScript_147 (by omega) (by omega) (by decide) rfl ?_
    refine x_cVI (As := [.int (nI ((sn / 1 % 100000) / 10000)), .int (nI (((sn / 1 % 100000) / 1000) % 10)), .int (nI (((sn / 1 % 100000) / 100) % 10)), .int (nI (((sn / 1 % 100000) / 10) % 10)), .int (nI ((sn / 1 % 100000) % 10))]) (k_X6_command l G Y mo 0 tx sz nw tr dy ac kp ik td ch sp ou ρ ((sn / 1 % 100000) / 10000) (((sn / 1 % 100000) / 1000) % 10) (((sn / 1 % 100000) / 100) % 10) (((sn / 1 % 100000) / 10) % 10) ((sn / 1 % 100000) % 10) (hI) (by omega) (by omega) (by omega) (by omega) (by omega)) cw_X6_201 [0, 2] 0 0 M hK hZ hw hl.1 rfl (by decide) rfl rfl rfl ⟨by decide, by decide⟩ ⟨Nat.zero_le _, Nat.zero_le _⟩ rfl rfl (Nat.le_of_ble_eq_true rfl) dX6_runScript_148 (fun r sg h_12 H locs hw => ?_)
    obtain ⟨rfl, rfl⟩ := h_12
    have hw : xW G A s.heap [[(mo, .inr (5, [.int (nI 0), .ref tx, .int (nI sz), .ref nw, .ref tr, .ref dy, .int (nI ac), .ref kp, .ref ik, .ref td, .ref ch, .int (nI sp), .int (nI ou)]))], [(nw, .inl (Y 0, 140, .inl (rowF ρ)))], [(tr, .inl (Y 0, 140, .inl (rowF (cRow ρ ((sn / 1 % 100000) / 10000) (((sn / 1 % 100000) / 1000) % 10) (((sn / 1 % 100000) / 100) % 10) (((sn / 1 % 100000) / 10) % 10) ((sn / 1 % 100000) % 10)))))]] H locs := hw
    refine x_topI (y := b2i (grpOk ρ (sn / 1 % 100000))) rfl ?_
    have hw : xW G A s.heap [[(mo, .inr (5, [.int (nI 0), .ref tx, .int (nI sz), .ref nw, .ref tr, .ref dy, .int (nI ac), .ref kp, .ref ik, .ref td, .ref ch, .int (nI sp), .int (nI ou)]))], [(nw, .inl (Y 0, 140, .inl (rowF ρ)))], [(tr, .inl (Y 0, 140, .inl (rowF (grpRow ρ (sn / 1 % 100000)))))]] H locs := hw
    have hI13 : Inv (grpRow ρ (sn / 1 % 100000)) := Inv_grp hI
    refine x_bne M (tgt := 157) dX6_runScript_151 (by decide) (fun c_14 => ?_) (fun c_14 => ?_)
    · refine lv_iinc (v := (nI 1)) (lv' := [(6, .int (nI 1)), (7, .int (nI (sn / 1 % 100000))), (4, .long (lN 1)), (0, .ref mo), (1, .int (nI 1)), (2, .long (lN sn))]) hx hb dX6_runScript_157 hl (k := 2) rfl (by decide) (by decide) rfl (fun ls hl => ?_)
      refine lv_goto (tgt := 86) hx hb dX6_runScript_160 (by decide) ?_
      refine lv_iload hx hb dX6_runScript_86 (lv_at hl 0 rfl) ?_
      refine lv_iload_n hx hb dX6_runScript_88 rfl (lv_at hl 4 rfl) ?_
      refine x_cge M (tgt := 163) (by decide) (by decide) dX6_runScript_89 (by decide) (fun c_15 => ?_) (fun c_15 => absurd c_15 (by decide))
      refine lv_iconst (v := (-1)) hx hb dX6_runScript_163 (by decide) ?_
      exact hret _ _ _ (-1) _ _ dX6_runScript_164 hw rfl rfl ⟨by unfold rsV; rw [gs1, rsL_t c_14, rsL_n]; rfl, _, rfl⟩
    refine lv_iload hx hb dX6_runScript_154 (lv_at hl 2 rfl) ?_
    exact hret _ _ _ (nI 0) _ _ dX6_runScript_156 hw rfl rfl ⟨by unfold rsV; rw [gs1, rsL_f c_14]; exact mwN_1.symm, _, rfl⟩
  · refine lv_lconst (v := 1) hx hb dX6_runScript_0 (by decide) ?_
    refine x_topL (y := (lN 1)) rfl ?_
    refine lv_lstore (lv' := [(4, .long (lN 1)), (0, .ref mo), (1, .int (nI 2)), (2, .long (lN sn))]) hx hb dX6_runScript_1 hl (by decide) rfl (fun ls hl => ?_)
    refine lv_iconst (v := (nI 0)) hx hb dX6_runScript_3 (by decide) ?_
    refine lv_istore (lv' := [(6, .int (nI 0)), (4, .long (lN 1)), (0, .ref mo), (1, .int (nI 2)), (2, .long (lN sn))]) hx hb dX6_runScript_4 hl (by decide) rfl (fun ls hl => ?_)
    refine lv_iload hx hb dX6_runScript_6 (lv_at hl 0 rfl) ?_
    refine lv_iload_n hx hb dX6_runScript_8 rfl (lv_at hl 3 rfl) ?_
    refine x_cge M (tgt := 32) (by decide) (by decide) dX6_runScript_9 (by decide) (fun c_16 => absurd c_16 (by decide)) (fun c_16 => ?_)
    refine lv_iload hx hb dX6_runScript_12 (lv_at hl 0 rfl) ?_
    refine lv_iconst (v := (nI 3)) hx hb dX6_runScript_14 (by decide) ?_
    refine x_cge M (tgt := 32) (by decide) (by decide) dX6_runScript_15 (by decide) (fun c_17 => absurd c_17 (by decide)) (fun c_17 => ?_)
    refine lv_lload hx hb dX6_runScript_18 (lv_at hl 1 rfl) ?_
    refine lv_ldc2 (v := 100000) hx hb M.2.2.2.1 (M.2.2.2.2 _ mw_1289) dX6_runScript_20 ?_
    refine lv_lmul hx hb dX6_runScript_23 ?_
    refine x_topL (y := (lN 100000)) rfl ?_
    refine lv_lstore (lv' := [(4, .long (lN 100000)), (6, .int (nI 0)), (0, .ref mo), (1, .int (nI 2)), (2, .long (lN sn))]) hx hb dX6_runScript_24 hl (by decide) rfl (fun ls hl => ?_)
    refine lv_iinc (v := (nI 1)) (lv' := [(6, .int (nI 1)), (4, .long (lN 100000)), (0, .ref mo), (1, .int (nI 2)), (2, .long (lN sn))]) hx hb dX6_runScript_26 hl (k := 1) rfl (by decide) (by decide) rfl (fun ls hl => ?_)
    refine lv_goto (tgt := 6) hx hb dX6_runScript_29 (by decide) ?_
    refine lv_iload hx hb dX6_runScript_6 (lv_at hl 0 rfl) ?_
    refine lv_iload_n hx hb dX6_runScript_8 rfl (lv_at hl 3 rfl) ?_
    refine x_cge M (tgt := 32) (by decide) (by decide) dX6_runScript_9 (by decide) (fun c_18 => absurd c_18 (by decide)) (fun c_18 => ?_)
    refine lv_iload hx hb dX6_runScript_12 (lv_at hl 0 rfl) ?_
    refine lv_iconst (v := (nI 3)) hx hb dX6_runScript_14 (by decide) ?_
    refine x_cge M (tgt := 32) (by decide) (by decide) dX6_runScript_15 (by decide) (fun c_19 => absurd c_19 (by decide)) (fun c_19 => ?_)
    refine lv_lload hx hb dX6_runScript_18 (lv_at hl 1 rfl) ?_
    refine lv_ldc2 (v := 100000) hx hb M.2.2.2.1 (M.2.2.2.2 _ mw_1289) dX6_runScript_20 ?_
    refine lv_lmul hx hb dX6_runScript_23 ?_
    refine x_topL (y := (lN 10000000000)) rfl ?_
    refine lv_lstore (lv' := [(4, .long (lN 10000000000)), (6, .int (nI 1)), (0, .ref mo), (1, .int (nI 2)), (2, .long (lN sn))]) hx hb dX6_runScript_24 hl (by decide) rfl (fun ls hl => ?_)
    refine lv_iinc (v := (nI 2)) (lv' := [(6, .int (nI 2)), (4, .long (lN 10000000000)), (0, .ref mo), (1, .int (nI 2)), (2, .long (lN sn))]) hx hb dX6_runScript_26 hl (k := 1) rfl (by decide) (by decide) rfl (fun ls hl => ?_)
    refine lv_goto (tgt := 6) hx hb dX6_runScript_29 (by decide) ?_
    refine lv_iload hx hb dX6_runScript_6 (lv_at hl 0 rfl) ?_
    refine lv_iload_n hx hb dX6_runScript_8 rfl (lv_at hl 3 rfl) ?_
    refine x_cge M (tgt := 32) (by decide) (by decide) dX6_runScript_9 (by decide) (fun c_20 => ?_) (fun c_20 => absurd c_20 (by decide))
    refine lv_aload_n hx hb dX6_runScript_32 rfl (lv_at hl 2 rfl) ?_
    refine lv_iload_n hx hb dX6_runScript_33 rfl (lv_at hl 3 rfl) ?_
    refine lv_i2l (v := (nI 2).toInt64) hx hb dX6_runScript_34 rfl ?_
    refine lv_lconst (v := 1) hx hb dX6_runScript_35 (by decide) ?_
    refine lv_ldc2 (v := 3) hx hb M.2.2.2.1 (M.2.2.2.2 _ mw_1157) dX6_runScript_36 ?_
    refine x_cSI (As := [.long ((nI 2).toInt64), .long 1, .long 3]) (k_X6_in l G Y ((nI 2).toInt64) 1 3) cw_X6_45 [] M hK hZ hw hl.1 rfl (by decide) ⟨by decide, by decide⟩ ⟨Nat.zero_le _, Nat.zero_le _⟩ rfl rfl (Nat.le_of_ble_eq_true rfl) dX6_runScript_39 (fun r sg h_21 H locs hw => ?_)
    obtain ⟨rfl, rfl⟩ := h_21
    have hw : xW G A s.heap [[(mo, .inr (5, [.int (nI rf), .ref tx, .int (nI sz), .ref nw, .ref tr, .ref dy, .int (nI ac), .ref kp, .ref ik, .ref td, .ref ch, .int (nI sp), .int (nI ou)]))], [(nw, .inl (Y 0, 140, .inl (rowF ρ)))], [(tr, .inl (Y 0, 140, .inl (rowF φ)))]] H locs := hw
    refine x_topI (y := b2i (inZ (nI 2).toInt 1 3)) (by rw [Int32.toInt_toInt64]; rfl) ?_
    refine x_beq M (tgt := 61) dX6_runScript_42 (by decide) (fun c_22 => absurd c_22 (fun z => pzF (a := 1) (b := 3) z (by decide) ⟨by decide, by decide⟩)) (fun c_22 => ?_)
    refine lv_lload_n hx hb dX6_runScript_45 rfl (lv_at hl 4 rfl) ?_
    refine lv_lconst (v := 0) hx hb dX6_runScript_46 (by decide) ?_
    refine lv_lload hx hb dX6_runScript_47 (lv_at hl 1 rfl) ?_
    refine lv_lconst (v := 1) hx hb dX6_runScript_49 (by decide) ?_
    refine lv_lsub hx hb dX6_runScript_50 ?_
    refine x_cSI (As := [.long (lN sn), .long 0, .long ((lN 10000000000) - 1)]) (k_X6_in l G Y (lN sn) 0 ((lN 10000000000) - 1)) cw_X6_45 [] M hK hZ hw hl.1 rfl (by decide) ⟨by decide, by decide⟩ ⟨Nat.zero_le _, Nat.zero_le _⟩ rfl rfl (Nat.le_of_ble_eq_true rfl) dX6_runScript_51 (fun r sg h_23 H locs hw => ?_)
    obtain ⟨rfl, rfl⟩ := h_23
    have hw : xW G A s.heap [[(mo, .inr (5, [.int (nI rf), .ref tx, .int (nI sz), .ref nw, .ref tr, .ref dy, .int (nI ac), .ref kp, .ref ik, .ref td, .ref ch, .int (nI sp), .int (nI ou)]))], [(nw, .inl (Y 0, 140, .inl (rowF ρ)))], [(tr, .inl (Y 0, 140, .inl (rowF φ)))]] H locs := hw
    refine x_topI (y := b2i (inZ (lN sn).toInt 0 9999999999)) rfl ?_
    refine x_beq M (tgt := 61) dX6_runScript_54 (by decide) (fun c_24 => absurd c_24 (fun z => by have h9 : inZ (lN sn).toInt 0 9999999999 = false := z; rw [lNt (by omega)] at h9; exact of_decide_eq_false h9 ⟨by omega, by omega⟩)) (fun c_24 => ?_)
    refine lv_iconst (v := (nI 0)) hx hb dX6_runScript_57 (by decide) ?_
    refine lv_goto (tgt := 62) hx hb dX6_runScript_58 (by decide) ?_
    refine x_cVI (As := [.int (nI 0)]) (k_X6_refused l G Y mo rf tx sz nw tr dy ac kp ik td ch sp ou 0 (by omega)) cw_X6_103 [0] 0 0 M hK hZ hw hl.1 rfl (by decide) rfl rfl rfl ⟨by decide, by decide⟩ ⟨Nat.zero_le _, Nat.zero_le _⟩ rfl rfl (Nat.le_of_ble_eq_true rfl) dX6_runScript_62 (fun r sg h_25 H locs hw => ?_)
    obtain ⟨rfl, rfl⟩ := h_25
    have hw : xW G A s.heap [[(mo, .inr (5, [.int (nI 0), .ref tx, .int (nI sz), .ref nw, .ref tr, .ref dy, .int (nI ac), .ref kp, .ref ik, .ref td, .ref ch, .int (nI sp), .int (nI ou)]))], [(nw, .inl (Y 0, 140, .inl (rowF ρ)))], [(tr, .inl (Y 0, 140, .inl (rowF φ)))]] H locs := hw
    refine x_beq M (tgt := 70) dX6_runScript_65 (by decide) (fun c_26 => ?_) (fun c_26 => absurd c_26 (fun z => by first | exact absurd z (by decide) | (have := of_decide_eq_true z; omega) | (have := of_decide_eq_false z; omega)))
    refine lv_aload_n hx hb dX6_runScript_70 rfl (lv_at hl 2 rfl) ?_
    refine x_get M hK hw 0 0 rfl rfl ff_X6_13 rfl dX6_runScript_71 ?_
    refine lv_iconst (v := (nI 0)) hx hb dX6_runScript_74 (by decide) ?_
    refine lv_aload_n hx hb dX6_runScript_75 rfl (lv_at hl 2 rfl) ?_
    refine x_get M hK hw 0 0 rfl rfl ff_X6_16 rfl dX6_runScript_76 ?_
    refine lv_iconst (v := (nI 0)) hx hb dX6_runScript_79 (by decide) ?_
    refine x_cSV (As := [.ref nw, .int (nI 0), .ref tr, .int (nI 0)]) (k_X6_copyState l G Y nw tr 140 140 0 0 ρ φ (by omega) (by omega) (by omega) (by omega)) cw_X6_154 [1, 2] M hK hZ hw hl.1 rfl (by decide) ⟨by decide, by decide⟩ ⟨Nat.zero_le _, Nat.zero_le _⟩ rfl rfl (Nat.le_of_ble_eq_true rfl) dX6_runScript_80 (fun sg h_27 H locs hw => ?_)
    obtain rfl := h_27
    have hw : xW G A s.heap [[(mo, .inr (5, [.int (nI 0), .ref tx, .int (nI sz), .ref nw, .ref tr, .ref dy, .int (nI ac), .ref kp, .ref ik, .ref td, .ref ch, .int (nI sp), .int (nI ou)]))], [(nw, .inl (Y 0, 140, .inl (rowF ρ)))], [(tr, .inl (Y 0, 140, .inl (rowF (cpS ρ φ 0 0 140))))]] H locs := hw
    have hw := row_fold (i := 2) (f' := rowF ρ) hw rfl (fun q hq => congrArg nI (by clear hret hw hl M hK hZ hx hb; have h9 := cpS_in (f := ρ) (g := φ) (fa := 0) (ta := 0) (k := q) (m := 140) hq; simp only [Nat.zero_add] at h9; exact h9.symm))
    have hw : xW G A s.heap [[(mo, .inr (5, [.int (nI 0), .ref tx, .int (nI sz), .ref nw, .ref tr, .ref dy, .int (nI ac), .ref kp, .ref ik, .ref td, .ref ch, .int (nI sp), .int (nI ou)]))], [(nw, .inl (Y 0, 140, .inl (rowF ρ)))], [(tr, .inl (Y 0, 140, .inl (rowF ρ)))]] H locs := hw
    refine lv_iconst (v := (nI 0)) hx hb dX6_runScript_83 (by decide) ?_
    refine lv_istore (lv' := [(6, .int (nI 0)), (4, .long (lN 10000000000)), (0, .ref mo), (1, .int (nI 2)), (2, .long (lN sn))]) hx hb dX6_runScript_84 hl (by decide) rfl (fun ls hl => ?_)
    refine lv_iload hx hb dX6_runScript_86 (lv_at hl 0 rfl) ?_
    refine lv_iload_n hx hb dX6_runScript_88 rfl (lv_at hl 3 rfl) ?_
    refine x_cge M (tgt := 163) (by decide) (by decide) dX6_runScript_89 (by decide) (fun c_28 => absurd c_28 (by decide)) (fun c_28 => ?_)
    refine lv_lload hx hb dX6_runScript_92 (lv_at hl 1 rfl) ?_
    refine lv_ldc2 (v := 100000) hx hb M.2.2.2.1 (M.2.2.2.2 _ mw_1289) dX6_runScript_94 ?_
    refine lv_ldiv hx hb dX6_runScript_97 (by decide) ?_
    refine x_topL (y := (lN 100000)) rfl ?_
    refine lv_lstore (lv' := [(4, .long (lN 100000)), (6, .int (nI 0)), (0, .ref mo), (1, .int (nI 2)), (2, .long (lN sn))]) hx hb dX6_runScript_98 hl (by decide) rfl (fun ls hl => ?_)
    refine lv_lload_n hx hb dX6_runScript_100 rfl (lv_at hl 4 rfl) ?_
    refine lv_lload hx hb dX6_runScript_101 (lv_at hl 0 rfl) ?_
    refine lv_ldiv hx hb dX6_runScript_103 (by decide) ?_
    refine x_topL (y := (lN (sn / 100000))) (lN_div (b := 100000) (by omega) (by decide)) ?_
    refine lv_ldc2 (v := 100000) hx hb M.2.2.2.1 (M.2.2.2.2 _ mw_1289) dX6_runScript_104 ?_
    refine lv_lrem hx hb dX6_runScript_107 (by decide) ?_
    refine x_topL (y := (lN (sn / 100000 % 100000))) (lN_rem (b := 100000) (by omega) (by decide)) ?_
    refine lv_l2i (v := ((lN (sn / 100000 % 100000))).toInt32) hx hb dX6_runScript_108 rfl ?_
    refine x_topN (n := (sn / 100000 % 100000)) lN_i9 ?_
    refine lv_istore (lv' := [(7, .int (nI (sn / 100000 % 100000))), (4, .long (lN 100000)), (6, .int (nI 0)), (0, .ref mo), (1, .int (nI 2)), (2, .long (lN sn))]) hx hb dX6_runScript_109 hl (by decide) rfl (fun ls hl => ?_)
    refine lv_aload_n hx hb dX6_runScript_111 rfl (lv_at hl 3 rfl) ?_
    refine lv_iload hx hb dX6_runScript_112 (lv_at hl 0 rfl) ?_
    refine lv_sipush (v := (nI 10000)) hx hb dX6_runScript_114 (by decide) ?_
    refine x_idiv M (n := (sn / 100000 % 100000) / 10000) dX6_runScript_117 (by omega) (by omega) (by decide) rfl ?_
    refine lv_iload hx hb dX6_runScript_118 (lv_at hl 0 rfl) ?_
    refine lv_sipush (v := (nI 1000)) hx hb dX6_runScript_120 (by decide) ?_
    refine x_idiv M (n := (sn / 100000 % 100000) / 1000) dX6_runScript_123 (by omega) (by omega) (by decide) rfl ?_
    refine lv_bipush (v := (nI 10)) hx hb dX6_runScript_124 (by decide) ?_
    refine x_irem M (n := ((sn / 100000 % 100000) / 1000) % 10) dX6_runScript_126 (by omega) (by omega) (by decide) rfl ?_
    refine lv_iload hx hb dX6_runScript_127 (lv_at hl 0 rfl) ?_
    refine lv_bipush (v := (nI 100)) hx hb dX6_runScript_129 (by decide) ?_
    refine x_idiv M (n := (sn / 100000 % 100000) / 100) dX6_runScript_131 (by omega) (by omega) (by decide) rfl ?_
    refine lv_bipush (v := (nI 10)) hx hb dX6_runScript_132 (by decide) ?_
    refine x_irem M (n := ((sn / 100000 % 100000) / 100) % 10) dX6_runScript_134 (by omega) (by omega) (by decide) rfl ?_
    refine lv_iload hx hb dX6_runScript_135 (lv_at hl 0 rfl) ?_
    refine lv_bipush (v := (nI 10)) hx hb dX6_runScript_137 (by decide) ?_
    refine x_idiv M (n := (sn / 100000 % 100000) / 10) dX6_runScript_139 (by omega) (by omega) (by decide) rfl ?_
    refine lv_bipush (v := (nI 10)) hx hb dX6_runScript_140 (by decide) ?_
    refine x_irem M (n := ((sn / 100000 % 100000) / 10) % 10) dX6_runScript_142 (by omega) (by omega) (by decide) rfl ?_
    refine lv_iload hx hb dX6_runScript_143 (lv_at hl 0 rfl) ?_
    refine lv_bipush (v := (nI 10)) hx hb dX6_runScript_145 (by decide) ?_
    refine x_irem M (n := (sn / 100000 % 100000) % 10) dX6_runScript_147 (by omega) (by omega) (by decide) rfl ?_
    refine x_cVI (As := [.int (nI ((sn / 100000 % 100000) / 10000)), .int (nI (((sn / 100000 % 100000) / 1000) % 10)), .int (nI (((sn / 100000 % 100000) / 100) % 10)), .int (nI (((sn / 100000 % 100000) / 10) % 10)), .int (nI ((sn / 100000 % 100000) % 10))]) (k_X6_command l G Y mo 0 tx sz nw tr dy ac kp ik td ch sp ou ρ ((sn / 100000 % 100000) / 10000) (((sn / 100000 % 100000) / 1000) % 10) (((sn / 100000 % 100000) / 100) % 10) (((sn / 100000 % 100000) / 10) % 10) ((sn / 100000 % 100000) % 10) (hI) (by omega) (by omega) (by omega) (by omega) (by omega)) cw_X6_201 [0, 2] 0 0 M hK hZ hw hl.1 rfl (by decide) rfl rfl rfl ⟨by decide, by decide⟩ ⟨Nat.zero_le _, Nat.zero_le _⟩ rfl rfl (Nat.le_of_ble_eq_true rfl) dX6_runScript_148 (fun r sg h_29 H locs hw => ?_)
    obtain ⟨rfl, rfl⟩ := h_29
    have hw : xW G A s.heap [[(mo, .inr (5, [.int (nI 0), .ref tx, .int (nI sz), .ref nw, .ref tr, .ref dy, .int (nI ac), .ref kp, .ref ik, .ref td, .ref ch, .int (nI sp), .int (nI ou)]))], [(nw, .inl (Y 0, 140, .inl (rowF ρ)))], [(tr, .inl (Y 0, 140, .inl (rowF (cRow ρ ((sn / 100000 % 100000) / 10000) (((sn / 100000 % 100000) / 1000) % 10) (((sn / 100000 % 100000) / 100) % 10) (((sn / 100000 % 100000) / 10) % 10) ((sn / 100000 % 100000) % 10)))))]] H locs := hw
    refine x_topI (y := b2i (grpOk ρ (sn / 100000 % 100000))) rfl ?_
    have hw : xW G A s.heap [[(mo, .inr (5, [.int (nI 0), .ref tx, .int (nI sz), .ref nw, .ref tr, .ref dy, .int (nI ac), .ref kp, .ref ik, .ref td, .ref ch, .int (nI sp), .int (nI ou)]))], [(nw, .inl (Y 0, 140, .inl (rowF ρ)))], [(tr, .inl (Y 0, 140, .inl (rowF (grpRow ρ (sn / 100000 % 100000)))))]] H locs := hw
    have hI30 : Inv (grpRow ρ (sn / 100000 % 100000)) := Inv_grp hI
    refine x_bne M (tgt := 157) dX6_runScript_151 (by decide) (fun c_31 => ?_) (fun c_31 => ?_)
    · refine lv_iinc (v := (nI 1)) (lv' := [(6, .int (nI 1)), (7, .int (nI (sn / 100000 % 100000))), (4, .long (lN 100000)), (0, .ref mo), (1, .int (nI 2)), (2, .long (lN sn))]) hx hb dX6_runScript_157 hl (k := 2) rfl (by decide) (by decide) rfl (fun ls hl => ?_)
      refine lv_goto (tgt := 86) hx hb dX6_runScript_160 (by decide) ?_
      refine lv_iload hx hb dX6_runScript_86 (lv_at hl 0 rfl) ?_
      refine lv_iload_n hx hb dX6_runScript_88 rfl (lv_at hl 4 rfl) ?_
      refine x_cge M (tgt := 163) (by decide) (by decide) dX6_runScript_89 (by decide) (fun c_32 => absurd c_32 (by decide)) (fun c_32 => ?_)
      refine lv_lload hx hb dX6_runScript_92 (lv_at hl 2 rfl) ?_
      refine lv_ldc2 (v := 100000) hx hb M.2.2.2.1 (M.2.2.2.2 _ mw_1289) dX6_runScript_94 ?_
      refine lv_ldiv hx hb dX6_runScript_97 (by decide) ?_
      refine x_topL (y := (lN 1)) rfl ?_
      refine lv_lstore (lv' := [(4, .long (lN 1)), (6, .int (nI 1)), (7, .int (nI (sn / 100000 % 100000))), (0, .ref mo), (1, .int (nI 2)), (2, .long (lN sn))]) hx hb dX6_runScript_98 hl (by decide) rfl (fun ls hl => ?_)
      refine lv_lload_n hx hb dX6_runScript_100 rfl (lv_at hl 5 rfl) ?_
      refine lv_lload hx hb dX6_runScript_101 (lv_at hl 0 rfl) ?_
      refine lv_ldiv hx hb dX6_runScript_103 (by decide) ?_
      refine x_topL (y := (lN (sn / 1))) (lN_div (b := 1) (by omega) (by decide)) ?_
      refine lv_ldc2 (v := 100000) hx hb M.2.2.2.1 (M.2.2.2.2 _ mw_1289) dX6_runScript_104 ?_
      refine lv_lrem hx hb dX6_runScript_107 (by decide) ?_
      refine x_topL (y := (lN (sn / 1 % 100000))) (lN_rem (b := 100000) (by omega) (by decide)) ?_
      refine lv_l2i (v := ((lN (sn / 1 % 100000))).toInt32) hx hb dX6_runScript_108 rfl ?_
      refine x_topN (n := (sn / 1 % 100000)) lN_i9 ?_
      refine lv_istore (lv' := [(7, .int (nI (sn / 1 % 100000))), (4, .long (lN 1)), (6, .int (nI 1)), (0, .ref mo), (1, .int (nI 2)), (2, .long (lN sn))]) hx hb dX6_runScript_109 hl (by decide) rfl (fun ls hl => ?_)
      refine lv_aload_n hx hb dX6_runScript_111 rfl (lv_at hl 3 rfl) ?_
      refine lv_iload hx hb dX6_runScript_112 (lv_at hl 0 rfl) ?_
      refine lv_sipush (v := (nI 10000)) hx hb dX6_runScript_114 (by decide) ?_
      refine x_idiv M (n := (sn / 1 % 100000) / 10000) dX6_runScript_117 (by omega) (by omega) (by decide) rfl ?_
      refine lv_iload hx hb dX6_runScript_118 (lv_at hl 0 rfl) ?_
      refine lv_sipush (v := (nI 1000)) hx hb dX6_runScript_120 (by decide) ?_
      refine x_idiv M (n := (sn / 1 % 100000) / 1000) dX6_runScript_123 (by omega) (by omega) (by decide) rfl ?_
      refine lv_bipush (v := (nI 10)) hx hb dX6_runScript_124 (by decide) ?_
      refine x_irem M (n := ((sn / 1 % 100000) / 1000) % 10) dX6_runScript_126 (by omega) (by omega) (by decide) rfl ?_
      refine lv_iload hx hb dX6_runScript_127 (lv_at hl 0 rfl) ?_
      refine lv_bipush (v := (nI 100)) hx hb dX6_runScript_129 (by decide) ?_
      refine x_idiv M (n := (sn / 1 % 100000) / 100) dX6_runScript_131 (by omega) (by omega) (by decide) rfl ?_
      refine lv_bipush (v := (nI 10)) hx hb dX6_runScript_132 (by decide) ?_
      refine x_irem M (n := ((sn / 1 % 100000) / 100) % 10) dX6_runScript_134 (by omega) (by omega) (by decide) rfl ?_
      refine lv_iload hx hb dX6_runScript_135 (lv_at hl 0 rfl) ?_
      refine lv_bipush (v := (nI 10)) hx hb dX6_runScript_137 (by decide) ?_
      refine x_idiv M (n := (sn / 1 % 100000) / 10) dX6_runScript_139 (by omega) (by omega) (by decide) rfl ?_
      refine lv_bipush (v := (nI 10)) hx hb dX6_runScript_140 (by decide) ?_
      refine x_irem M (n := ((sn / 1 % 100000) / 10) % 10) dX6_runScript_142 (by omega) (by omega) (by decide) rfl ?_
      refine lv_iload hx hb dX6_runScript_143 (lv_at hl 0 rfl) ?_
      refine lv_bipush (v := (nI 10)) hx hb dX6_runScript_145 (by decide) ?_
      refine x_irem M (n := (sn / 1 % 100000) % 10) dX6_runScript_147 (by omega) (by omega) (by decide) rfl ?_
      refine x_cVI (As := [.int (nI ((sn / 1 % 100000) / 10000)), .int (nI (((sn / 1 % 100000) / 1000) % 10)), .int (nI (((sn / 1 % 100000) / 100) % 10)), .int (nI (((sn / 1 % 100000) / 10) % 10)), .int (nI ((sn / 1 % 100000) % 10))]) (k_X6_command l G Y mo 0 tx sz nw tr dy ac kp ik td ch sp ou (grpRow ρ (sn / 100000 % 100000)) ((sn / 1 % 100000) / 10000) (((sn / 1 % 100000) / 1000) % 10) (((sn / 1 % 100000) / 100) % 10) (((sn / 1 % 100000) / 10) % 10) ((sn / 1 % 100000) % 10) (hI30) (by omega) (by omega) (by omega) (by omega) (by omega)) cw_X6_201 [0, 2] 0 0 M hK hZ hw hl.1 rfl (by decide) rfl rfl rfl ⟨by decide, by decide⟩ ⟨Nat.zero_le _, Nat.zero_le _⟩ rfl rfl (Nat.le_of_ble_eq_true rfl) dX6_runScript_148 (fun r sg h_33 H locs hw => ?_)
      obtain ⟨rfl, rfl⟩ := h_33
      have hw : xW G A s.heap [[(mo, .inr (5, [.int (nI 0), .ref tx, .int (nI sz), .ref nw, .ref tr, .ref dy, .int (nI ac), .ref kp, .ref ik, .ref td, .ref ch, .int (nI sp), .int (nI ou)]))], [(nw, .inl (Y 0, 140, .inl (rowF ρ)))], [(tr, .inl (Y 0, 140, .inl (rowF (cRow (grpRow ρ (sn / 100000 % 100000)) ((sn / 1 % 100000) / 10000) (((sn / 1 % 100000) / 1000) % 10) (((sn / 1 % 100000) / 100) % 10) (((sn / 1 % 100000) / 10) % 10) ((sn / 1 % 100000) % 10)))))]] H locs := hw
      refine x_topI (y := b2i (grpOk (grpRow ρ (sn / 100000 % 100000)) (sn / 1 % 100000))) rfl ?_
      have hw : xW G A s.heap [[(mo, .inr (5, [.int (nI 0), .ref tx, .int (nI sz), .ref nw, .ref tr, .ref dy, .int (nI ac), .ref kp, .ref ik, .ref td, .ref ch, .int (nI sp), .int (nI ou)]))], [(nw, .inl (Y 0, 140, .inl (rowF ρ)))], [(tr, .inl (Y 0, 140, .inl (rowF (grpRow (grpRow ρ (sn / 100000 % 100000)) (sn / 1 % 100000)))))]] H locs := hw
      have hI34 : Inv (grpRow (grpRow ρ (sn / 100000 % 100000)) (sn / 1 % 100000)) := Inv_grp hI30
      refine x_bne M (tgt := 157) dX6_runScript_151 (by decide) (fun c_35 => ?_) (fun c_35 => ?_)
      · refine lv_iinc (v := (nI 2)) (lv' := [(6, .int (nI 2)), (7, .int (nI (sn / 1 % 100000))), (4, .long (lN 1)), (0, .ref mo), (1, .int (nI 2)), (2, .long (lN sn))]) hx hb dX6_runScript_157 hl (k := 2) rfl (by decide) (by decide) rfl (fun ls hl => ?_)
        refine lv_goto (tgt := 86) hx hb dX6_runScript_160 (by decide) ?_
        refine lv_iload hx hb dX6_runScript_86 (lv_at hl 0 rfl) ?_
        refine lv_iload_n hx hb dX6_runScript_88 rfl (lv_at hl 4 rfl) ?_
        refine x_cge M (tgt := 163) (by decide) (by decide) dX6_runScript_89 (by decide) (fun c_36 => ?_) (fun c_36 => absurd c_36 (by decide))
        refine lv_iconst (v := (-1)) hx hb dX6_runScript_163 (by decide) ?_
        exact hret _ _ _ (-1) _ _ dX6_runScript_164 hw rfl rfl ⟨by unfold rsV; rw [gs2, rsL_t c_31, rsL_t c_35, rsL_n]; rfl, _, rfl⟩
      refine lv_iload hx hb dX6_runScript_154 (lv_at hl 2 rfl) ?_
      exact hret _ _ _ (nI 1) _ _ dX6_runScript_156 hw rfl rfl ⟨by unfold rsV; rw [gs2, rsL_t c_31, rsL_f c_35]; exact mwN_1.symm, _, rfl⟩
    refine lv_iload hx hb dX6_runScript_154 (lv_at hl 2 rfl) ?_
    exact hret _ _ _ (nI 0) _ _ dX6_runScript_156 hw rfl rfl ⟨by unfold rsV; rw [gs2, rsL_f c_31]; exact mwN_1.symm, _, rfl⟩
  · refine lv_lconst (v := 1) hx hb dX6_runScript_0 (by decide) ?_
    refine x_topL (y := (lN 1)) rfl ?_
    refine lv_lstore (lv' := [(4, .long (lN 1)), (0, .ref mo), (1, .int (nI 3)), (2, .long (lN sn))]) hx hb dX6_runScript_1 hl (by decide) rfl (fun ls hl => ?_)
    refine lv_iconst (v := (nI 0)) hx hb dX6_runScript_3 (by decide) ?_
    refine lv_istore (lv' := [(6, .int (nI 0)), (4, .long (lN 1)), (0, .ref mo), (1, .int (nI 3)), (2, .long (lN sn))]) hx hb dX6_runScript_4 hl (by decide) rfl (fun ls hl => ?_)
    refine lv_iload hx hb dX6_runScript_6 (lv_at hl 0 rfl) ?_
    refine lv_iload_n hx hb dX6_runScript_8 rfl (lv_at hl 3 rfl) ?_
    refine x_cge M (tgt := 32) (by decide) (by decide) dX6_runScript_9 (by decide) (fun c_37 => absurd c_37 (by decide)) (fun c_37 => ?_)
    refine lv_iload hx hb dX6_runScript_12 (lv_at hl 0 rfl) ?_
    refine lv_iconst (v := (nI 3)) hx hb dX6_runScript_14 (by decide) ?_
    refine x_cge M (tgt := 32) (by decide) (by decide) dX6_runScript_15 (by decide) (fun c_38 => absurd c_38 (by decide)) (fun c_38 => ?_)
    refine lv_lload hx hb dX6_runScript_18 (lv_at hl 1 rfl) ?_
    refine lv_ldc2 (v := 100000) hx hb M.2.2.2.1 (M.2.2.2.2 _ mw_1289) dX6_runScript_20 ?_
    refine lv_lmul hx hb dX6_runScript_23 ?_
    refine x_topL (y := (lN 100000)) rfl ?_
    refine lv_lstore (lv' := [(4, .long (lN 100000)), (6, .int (nI 0)), (0, .ref mo), (1, .int (nI 3)), (2, .long (lN sn))]) hx hb dX6_runScript_24 hl (by decide) rfl (fun ls hl => ?_)
    refine lv_iinc (v := (nI 1)) (lv' := [(6, .int (nI 1)), (4, .long (lN 100000)), (0, .ref mo), (1, .int (nI 3)), (2, .long (lN sn))]) hx hb dX6_runScript_26 hl (k := 1) rfl (by decide) (by decide) rfl (fun ls hl => ?_)
    refine lv_goto (tgt := 6) hx hb dX6_runScript_29 (by decide) ?_
    refine lv_iload hx hb dX6_runScript_6 (lv_at hl 0 rfl) ?_
    refine lv_iload_n hx hb dX6_runScript_8 rfl (lv_at hl 3 rfl) ?_
    refine x_cge M (tgt := 32) (by decide) (by decide) dX6_runScript_9 (by decide) (fun c_39 => absurd c_39 (by decide)) (fun c_39 => ?_)
    refine lv_iload hx hb dX6_runScript_12 (lv_at hl 0 rfl) ?_
    refine lv_iconst (v := (nI 3)) hx hb dX6_runScript_14 (by decide) ?_
    refine x_cge M (tgt := 32) (by decide) (by decide) dX6_runScript_15 (by decide) (fun c_40 => absurd c_40 (by decide)) (fun c_40 => ?_)
    refine lv_lload hx hb dX6_runScript_18 (lv_at hl 1 rfl) ?_
    refine lv_ldc2 (v := 100000) hx hb M.2.2.2.1 (M.2.2.2.2 _ mw_1289) dX6_runScript_20 ?_
    refine lv_lmul hx hb dX6_runScript_23 ?_
    refine x_topL (y := (lN 10000000000)) rfl ?_
    refine lv_lstore (lv' := [(4, .long (lN 10000000000)), (6, .int (nI 1)), (0, .ref mo), (1, .int (nI 3)), (2, .long (lN sn))]) hx hb dX6_runScript_24 hl (by decide) rfl (fun ls hl => ?_)
    refine lv_iinc (v := (nI 2)) (lv' := [(6, .int (nI 2)), (4, .long (lN 10000000000)), (0, .ref mo), (1, .int (nI 3)), (2, .long (lN sn))]) hx hb dX6_runScript_26 hl (k := 1) rfl (by decide) (by decide) rfl (fun ls hl => ?_)
    refine lv_goto (tgt := 6) hx hb dX6_runScript_29 (by decide) ?_
    refine lv_iload hx hb dX6_runScript_6 (lv_at hl 0 rfl) ?_
    refine lv_iload_n hx hb dX6_runScript_8 rfl (lv_at hl 3 rfl) ?_
    refine x_cge M (tgt := 32) (by decide) (by decide) dX6_runScript_9 (by decide) (fun c_41 => absurd c_41 (by decide)) (fun c_41 => ?_)
    refine lv_iload hx hb dX6_runScript_12 (lv_at hl 0 rfl) ?_
    refine lv_iconst (v := (nI 3)) hx hb dX6_runScript_14 (by decide) ?_
    refine x_cge M (tgt := 32) (by decide) (by decide) dX6_runScript_15 (by decide) (fun c_42 => absurd c_42 (by decide)) (fun c_42 => ?_)
    refine lv_lload hx hb dX6_runScript_18 (lv_at hl 1 rfl) ?_
    refine lv_ldc2 (v := 100000) hx hb M.2.2.2.1 (M.2.2.2.2 _ mw_1289) dX6_runScript_20 ?_
    refine lv_lmul hx hb dX6_runScript_23 ?_
    refine x_topL (y := (lN 1000000000000000)) rfl ?_
    refine lv_lstore (lv' := [(4, .long (lN 1000000000000000)), (6, .int (nI 2)), (0, .ref mo), (1, .int (nI 3)), (2, .long (lN sn))]) hx hb dX6_runScript_24 hl (by decide) rfl (fun ls hl => ?_)
    refine lv_iinc (v := (nI 3)) (lv' := [(6, .int (nI 3)), (4, .long (lN 1000000000000000)), (0, .ref mo), (1, .int (nI 3)), (2, .long (lN sn))]) hx hb dX6_runScript_26 hl (k := 1) rfl (by decide) (by decide) rfl (fun ls hl => ?_)
    refine lv_goto (tgt := 6) hx hb dX6_runScript_29 (by decide) ?_
    refine lv_iload hx hb dX6_runScript_6 (lv_at hl 0 rfl) ?_
    refine lv_iload_n hx hb dX6_runScript_8 rfl (lv_at hl 3 rfl) ?_
    refine x_cge M (tgt := 32) (by decide) (by decide) dX6_runScript_9 (by decide) (fun c_43 => ?_) (fun c_43 => absurd c_43 (by decide))
    refine lv_aload_n hx hb dX6_runScript_32 rfl (lv_at hl 2 rfl) ?_
    refine lv_iload_n hx hb dX6_runScript_33 rfl (lv_at hl 3 rfl) ?_
    refine lv_i2l (v := (nI 3).toInt64) hx hb dX6_runScript_34 rfl ?_
    refine lv_lconst (v := 1) hx hb dX6_runScript_35 (by decide) ?_
    refine lv_ldc2 (v := 3) hx hb M.2.2.2.1 (M.2.2.2.2 _ mw_1157) dX6_runScript_36 ?_
    refine x_cSI (As := [.long ((nI 3).toInt64), .long 1, .long 3]) (k_X6_in l G Y ((nI 3).toInt64) 1 3) cw_X6_45 [] M hK hZ hw hl.1 rfl (by decide) ⟨by decide, by decide⟩ ⟨Nat.zero_le _, Nat.zero_le _⟩ rfl rfl (Nat.le_of_ble_eq_true rfl) dX6_runScript_39 (fun r sg h_44 H locs hw => ?_)
    obtain ⟨rfl, rfl⟩ := h_44
    have hw : xW G A s.heap [[(mo, .inr (5, [.int (nI rf), .ref tx, .int (nI sz), .ref nw, .ref tr, .ref dy, .int (nI ac), .ref kp, .ref ik, .ref td, .ref ch, .int (nI sp), .int (nI ou)]))], [(nw, .inl (Y 0, 140, .inl (rowF ρ)))], [(tr, .inl (Y 0, 140, .inl (rowF φ)))]] H locs := hw
    refine x_topI (y := b2i (inZ (nI 3).toInt 1 3)) (by rw [Int32.toInt_toInt64]; rfl) ?_
    refine x_beq M (tgt := 61) dX6_runScript_42 (by decide) (fun c_45 => absurd c_45 (fun z => pzF (a := 1) (b := 3) z (by decide) ⟨by decide, by decide⟩)) (fun c_45 => ?_)
    refine lv_lload_n hx hb dX6_runScript_45 rfl (lv_at hl 4 rfl) ?_
    refine lv_lconst (v := 0) hx hb dX6_runScript_46 (by decide) ?_
    refine lv_lload hx hb dX6_runScript_47 (lv_at hl 1 rfl) ?_
    refine lv_lconst (v := 1) hx hb dX6_runScript_49 (by decide) ?_
    refine lv_lsub hx hb dX6_runScript_50 ?_
    refine x_cSI (As := [.long (lN sn), .long 0, .long ((lN 1000000000000000) - 1)]) (k_X6_in l G Y (lN sn) 0 ((lN 1000000000000000) - 1)) cw_X6_45 [] M hK hZ hw hl.1 rfl (by decide) ⟨by decide, by decide⟩ ⟨Nat.zero_le _, Nat.zero_le _⟩ rfl rfl (Nat.le_of_ble_eq_true rfl) dX6_runScript_51 (fun r sg h_46 H locs hw => ?_)
    obtain ⟨rfl, rfl⟩ := h_46
    have hw : xW G A s.heap [[(mo, .inr (5, [.int (nI rf), .ref tx, .int (nI sz), .ref nw, .ref tr, .ref dy, .int (nI ac), .ref kp, .ref ik, .ref td, .ref ch, .int (nI sp), .int (nI ou)]))], [(nw, .inl (Y 0, 140, .inl (rowF ρ)))], [(tr, .inl (Y 0, 140, .inl (rowF φ)))]] H locs := hw
    refine x_topI (y := b2i (inZ (lN sn).toInt 0 999999999999999)) rfl ?_
    refine x_beq M (tgt := 61) dX6_runScript_54 (by decide) (fun c_47 => absurd c_47 (fun z => by have h9 : inZ (lN sn).toInt 0 999999999999999 = false := z; rw [lNt (by omega)] at h9; exact of_decide_eq_false h9 ⟨by omega, by omega⟩)) (fun c_47 => ?_)
    refine lv_iconst (v := (nI 0)) hx hb dX6_runScript_57 (by decide) ?_
    refine lv_goto (tgt := 62) hx hb dX6_runScript_58 (by decide) ?_
    refine x_cVI (As := [.int (nI 0)]) (k_X6_refused l G Y mo rf tx sz nw tr dy ac kp ik td ch sp ou 0 (by omega)) cw_X6_103 [0] 0 0 M hK hZ hw hl.1 rfl (by decide) rfl rfl rfl ⟨by decide, by decide⟩ ⟨Nat.zero_le _, Nat.zero_le _⟩ rfl rfl (Nat.le_of_ble_eq_true rfl) dX6_runScript_62 (fun r sg h_48 H locs hw => ?_)
    obtain ⟨rfl, rfl⟩ := h_48
    have hw : xW G A s.heap [[(mo, .inr (5, [.int (nI 0), .ref tx, .int (nI sz), .ref nw, .ref tr, .ref dy, .int (nI ac), .ref kp, .ref ik, .ref td, .ref ch, .int (nI sp), .int (nI ou)]))], [(nw, .inl (Y 0, 140, .inl (rowF ρ)))], [(tr, .inl (Y 0, 140, .inl (rowF φ)))]] H locs := hw
    refine x_beq M (tgt := 70) dX6_runScript_65 (by decide) (fun c_49 => ?_) (fun c_49 => absurd c_49 (fun z => by first | exact absurd z (by decide) | (have := of_decide_eq_true z; omega) | (have := of_decide_eq_false z; omega)))
    refine lv_aload_n hx hb dX6_runScript_70 rfl (lv_at hl 2 rfl) ?_
    refine x_get M hK hw 0 0 rfl rfl ff_X6_13 rfl dX6_runScript_71 ?_
    refine lv_iconst (v := (nI 0)) hx hb dX6_runScript_74 (by decide) ?_
    refine lv_aload_n hx hb dX6_runScript_75 rfl (lv_at hl 2 rfl) ?_
    refine x_get M hK hw 0 0 rfl rfl ff_X6_16 rfl dX6_runScript_76 ?_
    refine lv_iconst (v := (nI 0)) hx hb dX6_runScript_79 (by decide) ?_
    refine x_cSV (As := [.ref nw, .int (nI 0), .ref tr, .int (nI 0)]) (k_X6_copyState l G Y nw tr 140 140 0 0 ρ φ (by omega) (by omega) (by omega) (by omega)) cw_X6_154 [1, 2] M hK hZ hw hl.1 rfl (by decide) ⟨by decide, by decide⟩ ⟨Nat.zero_le _, Nat.zero_le _⟩ rfl rfl (Nat.le_of_ble_eq_true rfl) dX6_runScript_80 (fun sg h_50 H locs hw => ?_)
    obtain rfl := h_50
    have hw : xW G A s.heap [[(mo, .inr (5, [.int (nI 0), .ref tx, .int (nI sz), .ref nw, .ref tr, .ref dy, .int (nI ac), .ref kp, .ref ik, .ref td, .ref ch, .int (nI sp), .int (nI ou)]))], [(nw, .inl (Y 0, 140, .inl (rowF ρ)))], [(tr, .inl (Y 0, 140, .inl (rowF (cpS ρ φ 0 0 140))))]] H locs := hw
    have hw := row_fold (i := 2) (f' := rowF ρ) hw rfl (fun q hq => congrArg nI (by clear hret hw hl M hK hZ hx hb; have h9 := cpS_in (f := ρ) (g := φ) (fa := 0) (ta := 0) (k := q) (m := 140) hq; simp only [Nat.zero_add] at h9; exact h9.symm))
    have hw : xW G A s.heap [[(mo, .inr (5, [.int (nI 0), .ref tx, .int (nI sz), .ref nw, .ref tr, .ref dy, .int (nI ac), .ref kp, .ref ik, .ref td, .ref ch, .int (nI sp), .int (nI ou)]))], [(nw, .inl (Y 0, 140, .inl (rowF ρ)))], [(tr, .inl (Y 0, 140, .inl (rowF ρ)))]] H locs := hw
    refine lv_iconst (v := (nI 0)) hx hb dX6_runScript_83 (by decide) ?_
    refine lv_istore (lv' := [(6, .int (nI 0)), (4, .long (lN 1000000000000000)), (0, .ref mo), (1, .int (nI 3)), (2, .long (lN sn))]) hx hb dX6_runScript_84 hl (by decide) rfl (fun ls hl => ?_)
    refine lv_iload hx hb dX6_runScript_86 (lv_at hl 0 rfl) ?_
    refine lv_iload_n hx hb dX6_runScript_88 rfl (lv_at hl 3 rfl) ?_
    refine x_cge M (tgt := 163) (by decide) (by decide) dX6_runScript_89 (by decide) (fun c_51 => absurd c_51 (by decide)) (fun c_51 => ?_)
    refine lv_lload hx hb dX6_runScript_92 (lv_at hl 1 rfl) ?_
    refine lv_ldc2 (v := 100000) hx hb M.2.2.2.1 (M.2.2.2.2 _ mw_1289) dX6_runScript_94 ?_
    refine lv_ldiv hx hb dX6_runScript_97 (by decide) ?_
    refine x_topL (y := (lN 10000000000)) rfl ?_
    refine lv_lstore (lv' := [(4, .long (lN 10000000000)), (6, .int (nI 0)), (0, .ref mo), (1, .int (nI 3)), (2, .long (lN sn))]) hx hb dX6_runScript_98 hl (by decide) rfl (fun ls hl => ?_)
    refine lv_lload_n hx hb dX6_runScript_100 rfl (lv_at hl 4 rfl) ?_
    refine lv_lload hx hb dX6_runScript_101 (lv_at hl 0 rfl) ?_
    refine lv_ldiv hx hb dX6_runScript_103 (by decide) ?_
    refine x_topL (y := (lN (sn / 10000000000))) (lN_div (b := 10000000000) (by omega) (by decide)) ?_
    refine lv_ldc2 (v := 100000) hx hb M.2.2.2.1 (M.2.2.2.2 _ mw_1289) dX6_runScript_104 ?_
    refine lv_lrem hx hb dX6_runScript_107 (by decide) ?_
    refine x_topL (y := (lN (sn / 10000000000 % 100000))) (lN_rem (b := 100000) (by omega) (by decide)) ?_
    refine lv_l2i (v := ((lN (sn / 10000000000 % 100000))).toInt32) hx hb dX6_runScript_108 rfl ?_
    refine x_topN (n := (sn / 10000000000 % 100000)) lN_i9 ?_
    refine lv_istore (lv' := [(7, .int (nI (sn / 10000000000 % 100000))), (4, .long (lN 10000000000)), (6, .int (nI 0)), (0, .ref mo), (1, .int (nI 3)), (2, .long (lN sn))]) hx hb dX6_runScript_109 hl (by decide) rfl (fun ls hl => ?_)
    refine lv_aload_n hx hb dX6_runScript_111 rfl (lv_at hl 3 rfl) ?_
    refine lv_iload hx hb dX6_runScript_112 (lv_at hl 0 rfl) ?_
    refine lv_sipush (v := (nI 10000)) hx hb dX6_runScript_114 (by decide) ?_
    refine x_idiv M (n := (sn / 10000000000 % 100000) / 10000) dX6_runScript_117 (by omega) (by omega) (by decide) rfl ?_
    refine lv_iload hx hb dX6_runScript_118 (lv_at hl 0 rfl) ?_
    refine lv_sipush (v := (nI 1000)) hx hb dX6_runScript_120 (by decide) ?_
    refine x_idiv M (n := (sn / 10000000000 % 100000) / 1000) dX6_runScript_123 (by omega) (by omega) (by decide) rfl ?_
    refine lv_bipush (v := (nI 10)) hx hb dX6_runScript_124 (by decide) ?_
    refine x_irem M (n := ((sn / 10000000000 % 100000) / 1000) % 10) dX6_runScript_126 (by omega) (by omega) (by decide) rfl ?_
    refine lv_iload hx hb dX6_runScript_127 (lv_at hl 0 rfl) ?_
    refine lv_bipush (v := (nI 100)) hx hb dX6_runScript_129 (by decide) ?_
    refine x_idiv M (n := (sn / 10000000000 % 100000) / 100) dX6_runScript_131 (by omega) (by omega) (by decide) rfl ?_
    refine lv_bipush (v := (nI 10)) hx hb dX6_runScript_132 (by decide) ?_
    refine x_irem M (n := ((sn / 10000000000 % 100000) / 100) % 10) dX6_runScript_134 (by omega) (by omega) (by decide) rfl ?_
    refine lv_iload hx hb dX6_runScript_135 (lv_at hl 0 rfl) ?_
    refine lv_bipush (v := (nI 10)) hx hb dX6_runScript_137 (by decide) ?_
    refine x_idiv M (n := (sn / 10000000000 % 100000) / 10) dX6_runScript_139 (by omega) (by omega) (by decide) rfl ?_
    refine lv_bipush (v := (nI 10)) hx hb dX6_runScript_140 (by decide) ?_
    refine x_irem M (n := ((sn / 10000000000 % 100000) / 10) % 10) dX6_runScript_142 (by omega) (by omega) (by decide) rfl ?_
    refine lv_iload hx hb dX6_runScript_143 (lv_at hl 0 rfl) ?_
    refine lv_bipush (v := (nI 10)) hx hb dX6_runScript_145 (by decide) ?_
    refine x_irem M (n := (sn / 10000000000 % 100000) % 10) dX6_runScript_147 (by omega) (by omega) (by decide) rfl ?_
    refine x_cVI (As := [.int (nI ((sn / 10000000000 % 100000) / 10000)), .int (nI (((sn / 10000000000 % 100000) / 1000) % 10)), .int (nI (((sn / 10000000000 % 100000) / 100) % 10)), .int (nI (((sn / 10000000000 % 100000) / 10) % 10)), .int (nI ((sn / 10000000000 % 100000) % 10))]) (k_X6_command l G Y mo 0 tx sz nw tr dy ac kp ik td ch sp ou ρ ((sn / 10000000000 % 100000) / 10000) (((sn / 10000000000 % 100000) / 1000) % 10) (((sn / 10000000000 % 100000) / 100) % 10) (((sn / 10000000000 % 100000) / 10) % 10) ((sn / 10000000000 % 100000) % 10) (hI) (by omega) (by omega) (by omega) (by omega) (by omega)) cw_X6_201 [0, 2] 0 0 M hK hZ hw hl.1 rfl (by decide) rfl rfl rfl ⟨by decide, by decide⟩ ⟨Nat.zero_le _, Nat.zero_le _⟩ rfl rfl (Nat.le_of_ble_eq_true rfl) dX6_runScript_148 (fun r sg h_52 H locs hw => ?_)
    obtain ⟨rfl, rfl⟩ := h_52
    have hw : xW G A s.heap [[(mo, .inr (5, [.int (nI 0), .ref tx, .int (nI sz), .ref nw, .ref tr, .ref dy, .int (nI ac), .ref kp, .ref ik, .ref td, .ref ch, .int (nI sp), .int (nI ou)]))], [(nw, .inl (Y 0, 140, .inl (rowF ρ)))], [(tr, .inl (Y 0, 140, .inl (rowF (cRow ρ ((sn / 10000000000 % 100000) / 10000) (((sn / 10000000000 % 100000) / 1000) % 10) (((sn / 10000000000 % 100000) / 100) % 10) (((sn / 10000000000 % 100000) / 10) % 10) ((sn / 10000000000 % 100000) % 10)))))]] H locs := hw
    refine x_topI (y := b2i (grpOk ρ (sn / 10000000000 % 100000))) rfl ?_
    have hw : xW G A s.heap [[(mo, .inr (5, [.int (nI 0), .ref tx, .int (nI sz), .ref nw, .ref tr, .ref dy, .int (nI ac), .ref kp, .ref ik, .ref td, .ref ch, .int (nI sp), .int (nI ou)]))], [(nw, .inl (Y 0, 140, .inl (rowF ρ)))], [(tr, .inl (Y 0, 140, .inl (rowF (grpRow ρ (sn / 10000000000 % 100000)))))]] H locs := hw
    have hI53 : Inv (grpRow ρ (sn / 10000000000 % 100000)) := Inv_grp hI
    refine x_bne M (tgt := 157) dX6_runScript_151 (by decide) (fun c_54 => ?_) (fun c_54 => ?_)
    · refine lv_iinc (v := (nI 1)) (lv' := [(6, .int (nI 1)), (7, .int (nI (sn / 10000000000 % 100000))), (4, .long (lN 10000000000)), (0, .ref mo), (1, .int (nI 3)), (2, .long (lN sn))]) hx hb dX6_runScript_157 hl (k := 2) rfl (by decide) (by decide) rfl (fun ls hl => ?_)
      refine lv_goto (tgt := 86) hx hb dX6_runScript_160 (by decide) ?_
      refine lv_iload hx hb dX6_runScript_86 (lv_at hl 0 rfl) ?_
      refine lv_iload_n hx hb dX6_runScript_88 rfl (lv_at hl 4 rfl) ?_
      refine x_cge M (tgt := 163) (by decide) (by decide) dX6_runScript_89 (by decide) (fun c_55 => absurd c_55 (by decide)) (fun c_55 => ?_)
      refine lv_lload hx hb dX6_runScript_92 (lv_at hl 2 rfl) ?_
      refine lv_ldc2 (v := 100000) hx hb M.2.2.2.1 (M.2.2.2.2 _ mw_1289) dX6_runScript_94 ?_
      refine lv_ldiv hx hb dX6_runScript_97 (by decide) ?_
      refine x_topL (y := (lN 100000)) rfl ?_
      refine lv_lstore (lv' := [(4, .long (lN 100000)), (6, .int (nI 1)), (7, .int (nI (sn / 10000000000 % 100000))), (0, .ref mo), (1, .int (nI 3)), (2, .long (lN sn))]) hx hb dX6_runScript_98 hl (by decide) rfl (fun ls hl => ?_)
      refine lv_lload_n hx hb dX6_runScript_100 rfl (lv_at hl 5 rfl) ?_
      refine lv_lload hx hb dX6_runScript_101 (lv_at hl 0 rfl) ?_
      refine lv_ldiv hx hb dX6_runScript_103 (by decide) ?_
      refine x_topL (y := (lN (sn / 100000))) (lN_div (b := 100000) (by omega) (by decide)) ?_
      refine lv_ldc2 (v := 100000) hx hb M.2.2.2.1 (M.2.2.2.2 _ mw_1289) dX6_runScript_104 ?_
      refine lv_lrem hx hb dX6_runScript_107 (by decide) ?_
      refine x_topL (y := (lN (sn / 100000 % 100000))) (lN_rem (b := 100000) (by omega) (by decide)) ?_
      refine lv_l2i (v := ((lN (sn / 100000 % 100000))).toInt32) hx hb dX6_runScript_108 rfl ?_
      refine x_topN (n := (sn / 100000 % 100000)) lN_i9 ?_
      refine lv_istore (lv' := [(7, .int (nI (sn / 100000 % 100000))), (4, .long (lN 100000)), (6, .int (nI 1)), (0, .ref mo), (1, .int (nI 3)), (2, .long (lN sn))]) hx hb dX6_runScript_109 hl (by decide) rfl (fun ls hl => ?_)
      refine lv_aload_n hx hb dX6_runScript_111 rfl (lv_at hl 3 rfl) ?_
      refine lv_iload hx hb dX6_runScript_112 (lv_at hl 0 rfl) ?_
      refine lv_sipush (v := (nI 10000)) hx hb dX6_runScript_114 (by decide) ?_
      refine x_idiv M (n := (sn / 100000 % 100000) / 10000) dX6_runScript_117 (by omega) (by omega) (by decide) rfl ?_
      refine lv_iload hx hb dX6_runScript_118 (lv_at hl 0 rfl) ?_
      refine lv_sipush (v := (nI 1000)) hx hb dX6_runScript_120 (by decide) ?_
      refine x_idiv M (n := (sn / 100000 % 100000) / 1000) dX6_runScript_123 (by omega) (by omega) (by decide) rfl ?_
      refine lv_bipush (v := (nI 10)) hx hb dX6_runScript_124 (by decide) ?_
      refine x_irem M (n := ((sn / 100000 % 100000) / 1000) % 10) dX6_runScript_126 (by omega) (by omega) (by decide) rfl ?_
      refine lv_iload hx hb dX6_runScript_127 (lv_at hl 0 rfl) ?_
      refine lv_bipush (v := (nI 100)) hx hb dX6_runScript_129 (by decide) ?_
      refine x_idiv M (n := (sn / 100000 % 100000) / 100) dX6_runScript_131 (by omega) (by omega) (by decide) rfl ?_
      refine lv_bipush (v := (nI 10)) hx hb dX6_runScript_132 (by decide) ?_
      refine x_irem M (n := ((sn / 100000 % 100000) / 100) % 10) dX6_runScript_134 (by omega) (by omega) (by decide) rfl ?_
      refine lv_iload hx hb dX6_runScript_135 (lv_at hl 0 rfl) ?_
      refine lv_bipush (v := (nI 10)) hx hb dX6_runScript_137 (by decide) ?_
      refine x_idiv M (n := (sn / 100000 % 100000) / 10) dX6_runScript_139 (by omega) (by omega) (by decide) rfl ?_
      refine lv_bipush (v := (nI 10)) hx hb dX6_runScript_140 (by decide) ?_
      refine x_irem M (n := ((sn / 100000 % 100000) / 10) % 10) dX6_runScript_142 (by omega) (by omega) (by decide) rfl ?_
      refine lv_iload hx hb dX6_runScript_143 (lv_at hl 0 rfl) ?_
      refine lv_bipush (v := (nI 10)) hx hb dX6_runScript_145 (by decide) ?_
      refine x_irem M (n := (sn / 100000 % 100000) % 10) dX6_runScript_147 (by omega) (by omega) (by decide) rfl ?_
      refine x_cVI (As := [.int (nI ((sn / 100000 % 100000) / 10000)), .int (nI (((sn / 100000 % 100000) / 1000) % 10)), .int (nI (((sn / 100000 % 100000) / 100) % 10)), .int (nI (((sn / 100000 % 100000) / 10) % 10)), .int (nI ((sn / 100000 % 100000) % 10))]) (k_X6_command l G Y mo 0 tx sz nw tr dy ac kp ik td ch sp ou (grpRow ρ (sn / 10000000000 % 100000)) ((sn / 100000 % 100000) / 10000) (((sn / 100000 % 100000) / 1000) % 10) (((sn / 100000 % 100000) / 100) % 10) (((sn / 100000 % 100000) / 10) % 10) ((sn / 100000 % 100000) % 10) (hI53) (by omega) (by omega) (by omega) (by omega) (by omega)) cw_X6_201 [0, 2] 0 0 M hK hZ hw hl.1 rfl (by decide) rfl rfl rfl ⟨by decide, by decide⟩ ⟨Nat.zero_le _, Nat.zero_le _⟩ rfl rfl (Nat.le_of_ble_eq_true rfl) dX6_runScript_148 (fun r sg h_56 H locs hw => ?_)
      obtain ⟨rfl, rfl⟩ := h_56
      have hw : xW G A s.heap [[(mo, .inr (5, [.int (nI 0), .ref tx, .int (nI sz), .ref nw, .ref tr, .ref dy, .int (nI ac), .ref kp, .ref ik, .ref td, .ref ch, .int (nI sp), .int (nI ou)]))], [(nw, .inl (Y 0, 140, .inl (rowF ρ)))], [(tr, .inl (Y 0, 140, .inl (rowF (cRow (grpRow ρ (sn / 10000000000 % 100000)) ((sn / 100000 % 100000) / 10000) (((sn / 100000 % 100000) / 1000) % 10) (((sn / 100000 % 100000) / 100) % 10) (((sn / 100000 % 100000) / 10) % 10) ((sn / 100000 % 100000) % 10)))))]] H locs := hw
      refine x_topI (y := b2i (grpOk (grpRow ρ (sn / 10000000000 % 100000)) (sn / 100000 % 100000))) rfl ?_
      have hw : xW G A s.heap [[(mo, .inr (5, [.int (nI 0), .ref tx, .int (nI sz), .ref nw, .ref tr, .ref dy, .int (nI ac), .ref kp, .ref ik, .ref td, .ref ch, .int (nI sp), .int (nI ou)]))], [(nw, .inl (Y 0, 140, .inl (rowF ρ)))], [(tr, .inl (Y 0, 140, .inl (rowF (grpRow (grpRow ρ (sn / 10000000000 % 100000)) (sn / 100000 % 100000)))))]] H locs := hw
      have hI57 : Inv (grpRow (grpRow ρ (sn / 10000000000 % 100000)) (sn / 100000 % 100000)) := Inv_grp hI53
      refine x_bne M (tgt := 157) dX6_runScript_151 (by decide) (fun c_58 => ?_) (fun c_58 => ?_)
      · refine lv_iinc (v := (nI 2)) (lv' := [(6, .int (nI 2)), (7, .int (nI (sn / 100000 % 100000))), (4, .long (lN 100000)), (0, .ref mo), (1, .int (nI 3)), (2, .long (lN sn))]) hx hb dX6_runScript_157 hl (k := 2) rfl (by decide) (by decide) rfl (fun ls hl => ?_)
        refine lv_goto (tgt := 86) hx hb dX6_runScript_160 (by decide) ?_
        refine lv_iload hx hb dX6_runScript_86 (lv_at hl 0 rfl) ?_
        refine lv_iload_n hx hb dX6_runScript_88 rfl (lv_at hl 4 rfl) ?_
        refine x_cge M (tgt := 163) (by decide) (by decide) dX6_runScript_89 (by decide) (fun c_59 => absurd c_59 (by decide)) (fun c_59 => ?_)
        refine lv_lload hx hb dX6_runScript_92 (lv_at hl 2 rfl) ?_
        refine lv_ldc2 (v := 100000) hx hb M.2.2.2.1 (M.2.2.2.2 _ mw_1289) dX6_runScript_94 ?_
        refine lv_ldiv hx hb dX6_runScript_97 (by decide) ?_
        refine x_topL (y := (lN 1)) rfl ?_
        refine lv_lstore (lv' := [(4, .long (lN 1)), (6, .int (nI 2)), (7, .int (nI (sn / 100000 % 100000))), (0, .ref mo), (1, .int (nI 3)), (2, .long (lN sn))]) hx hb dX6_runScript_98 hl (by decide) rfl (fun ls hl => ?_)
        refine lv_lload_n hx hb dX6_runScript_100 rfl (lv_at hl 5 rfl) ?_
        refine lv_lload hx hb dX6_runScript_101 (lv_at hl 0 rfl) ?_
        refine lv_ldiv hx hb dX6_runScript_103 (by decide) ?_
        refine x_topL (y := (lN (sn / 1))) (lN_div (b := 1) (by omega) (by decide)) ?_
        refine lv_ldc2 (v := 100000) hx hb M.2.2.2.1 (M.2.2.2.2 _ mw_1289) dX6_runScript_104 ?_
        refine lv_lrem hx hb dX6_runScript_107 (by decide) ?_
        refine x_topL (y := (lN (sn / 1 % 100000))) (lN_rem (b := 100000) (by omega) (by decide)) ?_
        refine lv_l2i (v := ((lN (sn / 1 % 100000))).toInt32) hx hb dX6_runScript_108 rfl ?_
        refine x_topN (n := (sn / 1 % 100000)) lN_i9 ?_
        refine lv_istore (lv' := [(7, .int (nI (sn / 1 % 100000))), (4, .long (lN 1)), (6, .int (nI 2)), (0, .ref mo), (1, .int (nI 3)), (2, .long (lN sn))]) hx hb dX6_runScript_109 hl (by decide) rfl (fun ls hl => ?_)
        refine lv_aload_n hx hb dX6_runScript_111 rfl (lv_at hl 3 rfl) ?_
        refine lv_iload hx hb dX6_runScript_112 (lv_at hl 0 rfl) ?_
        refine lv_sipush (v := (nI 10000)) hx hb dX6_runScript_114 (by decide) ?_
        refine x_idiv M (n := (sn / 1 % 100000) / 10000) dX6_runScript_117 (by omega) (by omega) (by decide) rfl ?_
        refine lv_iload hx hb dX6_runScript_118 (lv_at hl 0 rfl) ?_
        refine lv_sipush (v := (nI 1000)) hx hb dX6_runScript_120 (by decide) ?_
        refine x_idiv M (n := (sn / 1 % 100000) / 1000) dX6_runScript_123 (by omega) (by omega) (by decide) rfl ?_
        refine lv_bipush (v := (nI 10)) hx hb dX6_runScript_124 (by decide) ?_
        refine x_irem M (n := ((sn / 1 % 100000) / 1000) % 10) dX6_runScript_126 (by omega) (by omega) (by decide) rfl ?_
        refine lv_iload hx hb dX6_runScript_127 (lv_at hl 0 rfl) ?_
        refine lv_bipush (v := (nI 100)) hx hb dX6_runScript_129 (by decide) ?_
        refine x_idiv M (n := (sn / 1 % 100000) / 100) dX6_runScript_131 (by omega) (by omega) (by decide) rfl ?_
        refine lv_bipush (v := (nI 10)) hx hb dX6_runScript_132 (by decide) ?_
        refine x_irem M (n := ((sn / 1 % 100000) / 100) % 10) dX6_runScript_134 (by omega) (by omega) (by decide) rfl ?_
        refine lv_iload hx hb dX6_runScript_135 (lv_at hl 0 rfl) ?_
        refine lv_bipush (v := (nI 10)) hx hb dX6_runScript_137 (by decide) ?_
        refine x_idiv M (n := (sn / 1 % 100000) / 10) dX6_runScript_139 (by omega) (by omega) (by decide) rfl ?_
        refine lv_bipush (v := (nI 10)) hx hb dX6_runScript_140 (by decide) ?_
        refine x_irem M (n := ((sn / 1 % 100000) / 10) % 10) dX6_runScript_142 (by omega) (by omega) (by decide) rfl ?_
        refine lv_iload hx hb dX6_runScript_143 (lv_at hl 0 rfl) ?_
        refine lv_bipush (v := (nI 10)) hx hb dX6_runScript_145 (by decide) ?_
        refine x_irem M (n := (sn / 1 % 100000) % 10) dX6_runScript_147 (by omega) (by omega) (by decide) rfl ?_
        refine x_cVI (As := [.int (nI ((sn / 1 % 100000) / 10000)), .int (nI (((sn / 1 % 100000) / 1000) % 10)), .int (nI (((sn / 1 % 100000) / 100) % 10)), .int (nI (((sn / 1 % 100000) / 10) % 10)), .int (nI ((sn / 1 % 100000) % 10))]) (k_X6_command l G Y mo 0 tx sz nw tr dy ac kp ik td ch sp ou (grpRow (grpRow ρ (sn / 10000000000 % 100000)) (sn / 100000 % 100000)) ((sn / 1 % 100000) / 10000) (((sn / 1 % 100000) / 1000) % 10) (((sn / 1 % 100000) / 100) % 10) (((sn / 1 % 100000) / 10) % 10) ((sn / 1 % 100000) % 10) (hI57) (by omega) (by omega) (by omega) (by omega) (by omega)) cw_X6_201 [0, 2] 0 0 M hK hZ hw hl.1 rfl (by decide) rfl rfl rfl ⟨by decide, by decide⟩ ⟨Nat.zero_le _, Nat.zero_le _⟩ rfl rfl (Nat.le_of_ble_eq_true rfl) dX6_runScript_148 (fun r sg h_60 H locs hw => ?_)
        obtain ⟨rfl, rfl⟩ := h_60
        have hw : xW G A s.heap [[(mo, .inr (5, [.int (nI 0), .ref tx, .int (nI sz), .ref nw, .ref tr, .ref dy, .int (nI ac), .ref kp, .ref ik, .ref td, .ref ch, .int (nI sp), .int (nI ou)]))], [(nw, .inl (Y 0, 140, .inl (rowF ρ)))], [(tr, .inl (Y 0, 140, .inl (rowF (cRow (grpRow (grpRow ρ (sn / 10000000000 % 100000)) (sn / 100000 % 100000)) ((sn / 1 % 100000) / 10000) (((sn / 1 % 100000) / 1000) % 10) (((sn / 1 % 100000) / 100) % 10) (((sn / 1 % 100000) / 10) % 10) ((sn / 1 % 100000) % 10)))))]] H locs := hw
        refine x_topI (y := b2i (grpOk (grpRow (grpRow ρ (sn / 10000000000 % 100000)) (sn / 100000 % 100000)) (sn / 1 % 100000))) rfl ?_
        have hw : xW G A s.heap [[(mo, .inr (5, [.int (nI 0), .ref tx, .int (nI sz), .ref nw, .ref tr, .ref dy, .int (nI ac), .ref kp, .ref ik, .ref td, .ref ch, .int (nI sp), .int (nI ou)]))], [(nw, .inl (Y 0, 140, .inl (rowF ρ)))], [(tr, .inl (Y 0, 140, .inl (rowF (grpRow (grpRow (grpRow ρ (sn / 10000000000 % 100000)) (sn / 100000 % 100000)) (sn / 1 % 100000)))))]] H locs := hw
        have hI61 : Inv (grpRow (grpRow (grpRow ρ (sn / 10000000000 % 100000)) (sn / 100000 % 100000)) (sn / 1 % 100000)) := Inv_grp hI57
        refine x_bne M (tgt := 157) dX6_runScript_151 (by decide) (fun c_62 => ?_) (fun c_62 => ?_)
        · refine lv_iinc (v := (nI 3)) (lv' := [(6, .int (nI 3)), (7, .int (nI (sn / 1 % 100000))), (4, .long (lN 1)), (0, .ref mo), (1, .int (nI 3)), (2, .long (lN sn))]) hx hb dX6_runScript_157 hl (k := 2) rfl (by decide) (by decide) rfl (fun ls hl => ?_)
          refine lv_goto (tgt := 86) hx hb dX6_runScript_160 (by decide) ?_
          refine lv_iload hx hb dX6_runScript_86 (lv_at hl 0 rfl) ?_
          refine lv_iload_n hx hb dX6_runScript_88 rfl (lv_at hl 4 rfl) ?_
          refine x_cge M (tgt := 163) (by decide) (by decide) dX6_runScript_89 (by decide) (fun c_63 => ?_) (fun c_63 => absurd c_63 (by decide))
          refine lv_iconst (v := (-1)) hx hb dX6_runScript_163 (by decide) ?_
          exact hret _ _ _ (-1) _ _ dX6_runScript_164 hw rfl rfl ⟨by unfold rsV; rw [gs3, rsL_t c_54, rsL_t c_58, rsL_t c_62, rsL_n]; rfl, _, rfl⟩
        refine lv_iload hx hb dX6_runScript_154 (lv_at hl 2 rfl) ?_
        exact hret _ _ _ (nI 2) _ _ dX6_runScript_156 hw rfl rfl ⟨by unfold rsV; rw [gs3, rsL_t c_54, rsL_t c_58, rsL_f c_62]; exact mwN_1.symm, _, rfl⟩
      refine lv_iload hx hb dX6_runScript_154 (lv_at hl 2 rfl) ?_
      exact hret _ _ _ (nI 1) _ _ dX6_runScript_156 hw rfl rfl ⟨by unfold rsV; rw [gs3, rsL_t c_54, rsL_f c_58]; exact mwN_1.symm, _, rfl⟩
    refine lv_iload hx hb dX6_runScript_154 (lv_at hl 2 rfl) ?_
    exact hret _ _ _ (nI 0) _ _ dX6_runScript_156 hw rfl rfl ⟨by unfold rsV; rw [gs3, rsL_f c_54]; exact mwN_1.symm, _, rfl⟩
set_option maxHeartbeats 4000000 in
set_option maxRecDepth 20000 in
theorem f_X6_runScript_1 (l : Launch) (G : va_G) (Y : Nat → Nat) (mo rf tx sz nw tr dy ac kp ik td ch sp ou : Nat) (ρ : Nat → Nat) (n : Int32) (sc : Int64) (hk : inZ n.toInt 1 3 = false) : CtI l yX6_runScript cX6_runScript 8 .int 1 25 [.ref mo, .int n, .long sc] [[(mo, .inr (5, [.int (nI rf), .ref tx, .int (nI sz), .ref nw, .ref tr, .ref dy, .int (nI ac), .ref kp, .ref ik, .ref td, .ref ch, .int (nI sp), .int (nI ou)]))], [(nw, .inl (Y 0, 140, .inl (rowF ρ)))]] (fun r sg => r = nI 0 ∧ sg = [[(mo, .inr (5, [.int (nI 1), .ref tx, .int (nI sz), .ref nw, .ref tr, .ref dy, .int (nI ac), .ref kp, .ref ik, .ref td, .ref ch, .int (nI sp), .int (nI ou)]))], [(nw, .inl (Y 0, 140, .inl (rowF ρ)))]]) G Y := by
  refine x_ofI (by decide) (Nat.le_of_ble_eq_true rfl) (fun p e s m args below meth c A ls Q M hK hZ hw hl hret => ?_)
  obtain ⟨hx, hb, -⟩ := id M
  have hl : lv_has ls 8 [(0, .ref mo), (1, .int n), (2, .long sc)] := hl
  refine lv_lconst (v := 1) hx hb dX6_runScript_0 (by decide) ?_
  refine lv_lstore (lv' := [(4, .long 1), (0, .ref mo), (1, .int n), (2, .long sc)]) hx hb dX6_runScript_1 hl (by decide) rfl (fun ls hl => ?_)
  refine lv_iconst (v := (nI 0)) hx hb dX6_runScript_3 (by decide) ?_
  refine lv_istore (lv' := [(6, .int (nI 0)), (4, .long 1), (0, .ref mo), (1, .int n), (2, .long sc)]) hx hb dX6_runScript_4 hl (by decide) rfl (fun ls hl => ?_)
  refine lv_iload hx hb dX6_runScript_6 (lv_at hl 0 rfl) ?_
  refine lv_iload_n hx hb dX6_runScript_8 rfl (lv_at hl 3 rfl) ?_
  refine lv_icmp_ge (tgt := 32) hx hb dX6_runScript_9 (by decide) (fun c_1 => ?_) (fun c_1 => ?_)
  · refine lv_aload_n hx hb dX6_runScript_32 rfl (lv_at hl 2 rfl) ?_
    refine lv_iload_n hx hb dX6_runScript_33 rfl (lv_at hl 3 rfl) ?_
    refine lv_i2l (v := n.toInt64) hx hb dX6_runScript_34 rfl ?_
    refine lv_lconst (v := 1) hx hb dX6_runScript_35 (by decide) ?_
    refine lv_ldc2 (v := 3) hx hb M.2.2.2.1 (M.2.2.2.2 _ mw_1157) dX6_runScript_36 ?_
    refine x_cSI (As := [.long n.toInt64, .long 1, .long 3]) (k_X6_in l G Y n.toInt64 1 3) cw_X6_45 [] M hK hZ hw hl.1 rfl (by decide) ⟨by decide, by decide⟩ ⟨Nat.zero_le _, Nat.zero_le _⟩ rfl rfl (Nat.le_of_ble_eq_true rfl) dX6_runScript_39 (fun r sg h_2 H locs hw => ?_)
    obtain ⟨rfl, rfl⟩ := h_2
    have hw : xW G A s.heap [[(mo, .inr (5, [.int (nI rf), .ref tx, .int (nI sz), .ref nw, .ref tr, .ref dy, .int (nI ac), .ref kp, .ref ik, .ref td, .ref ch, .int (nI sp), .int (nI ou)]))], [(nw, .inl (Y 0, 140, .inl (rowF ρ)))]] H locs := hw
    refine x_topI (y := b2i (inZ n.toInt 1 3)) (by rw [Int32.toInt_toInt64]; rfl) ?_
    refine x_beq M (tgt := 61) dX6_runScript_42 (by decide) (fun c_3 => ?_) (fun c_3 => absurd c_3 (fun z => by have h9 := z; rw [hk] at h9; exact absurd h9 (by decide)))
    refine lv_iconst (v := (nI 1)) hx hb dX6_runScript_61 (by decide) ?_
    refine x_cVI (As := [.int (nI 1)]) (k_X6_refused l G Y mo rf tx sz nw tr dy ac kp ik td ch sp ou 1 (by omega)) cw_X6_103 [0] 0 0 M hK hZ hw hl.1 rfl (by decide) rfl rfl rfl ⟨by decide, by decide⟩ ⟨Nat.zero_le _, Nat.zero_le _⟩ rfl rfl (Nat.le_of_ble_eq_true rfl) dX6_runScript_62 (fun r sg h_4 H locs hw => ?_)
    obtain ⟨rfl, rfl⟩ := h_4
    have hw : xW G A s.heap [[(mo, .inr (5, [.int (nI 1), .ref tx, .int (nI sz), .ref nw, .ref tr, .ref dy, .int (nI ac), .ref kp, .ref ik, .ref td, .ref ch, .int (nI sp), .int (nI ou)]))], [(nw, .inl (Y 0, 140, .inl (rowF ρ)))]] H locs := hw
    refine x_beq M (tgt := 70) dX6_runScript_65 (by decide) (fun c_5 => absurd c_5 (fun z => by first | exact absurd z (by decide) | (have := of_decide_eq_true z; omega) | (have := of_decide_eq_false z; omega))) (fun c_5 => ?_)
    refine lv_iconst (v := (nI 0)) hx hb dX6_runScript_68 (by decide) ?_
    exact hret _ _ _ (nI 0) _ _ dX6_runScript_69 hw rfl rfl ⟨rfl, rfl⟩
  refine lv_iload hx hb dX6_runScript_12 (lv_at hl 0 rfl) ?_
  refine lv_iconst (v := (nI 3)) hx hb dX6_runScript_14 (by decide) ?_
  refine x_cge M (tgt := 32) (by decide) (by decide) dX6_runScript_15 (by decide) (fun c_6 => absurd c_6 (by decide)) (fun c_6 => ?_)
  refine lv_lload hx hb dX6_runScript_18 (lv_at hl 1 rfl) ?_
  refine lv_ldc2 (v := 100000) hx hb M.2.2.2.1 (M.2.2.2.2 _ mw_1289) dX6_runScript_20 ?_
  refine lv_lmul hx hb dX6_runScript_23 ?_
  refine lv_lstore (lv' := [(4, .long (1 * 100000)), (6, .int (nI 0)), (0, .ref mo), (1, .int n), (2, .long sc)]) hx hb dX6_runScript_24 hl (by decide) rfl (fun ls hl => ?_)
  refine lv_iinc (v := (nI 1)) (lv' := [(6, .int (nI 1)), (4, .long (1 * 100000)), (0, .ref mo), (1, .int n), (2, .long sc)]) hx hb dX6_runScript_26 hl (k := 1) rfl (by decide) (by decide) rfl (fun ls hl => ?_)
  refine lv_goto (tgt := 6) hx hb dX6_runScript_29 (by decide) ?_
  refine lv_iload hx hb dX6_runScript_6 (lv_at hl 0 rfl) ?_
  refine lv_iload_n hx hb dX6_runScript_8 rfl (lv_at hl 3 rfl) ?_
  refine lv_icmp_ge (tgt := 32) hx hb dX6_runScript_9 (by decide) (fun c_7 => ?_) (fun c_7 => ?_)
  · refine lv_aload_n hx hb dX6_runScript_32 rfl (lv_at hl 2 rfl) ?_
    refine lv_iload_n hx hb dX6_runScript_33 rfl (lv_at hl 3 rfl) ?_
    refine lv_i2l (v := n.toInt64) hx hb dX6_runScript_34 rfl ?_
    refine lv_lconst (v := 1) hx hb dX6_runScript_35 (by decide) ?_
    refine lv_ldc2 (v := 3) hx hb M.2.2.2.1 (M.2.2.2.2 _ mw_1157) dX6_runScript_36 ?_
    refine x_cSI (As := [.long n.toInt64, .long 1, .long 3]) (k_X6_in l G Y n.toInt64 1 3) cw_X6_45 [] M hK hZ hw hl.1 rfl (by decide) ⟨by decide, by decide⟩ ⟨Nat.zero_le _, Nat.zero_le _⟩ rfl rfl (Nat.le_of_ble_eq_true rfl) dX6_runScript_39 (fun r sg h_8 H locs hw => ?_)
    obtain ⟨rfl, rfl⟩ := h_8
    have hw : xW G A s.heap [[(mo, .inr (5, [.int (nI rf), .ref tx, .int (nI sz), .ref nw, .ref tr, .ref dy, .int (nI ac), .ref kp, .ref ik, .ref td, .ref ch, .int (nI sp), .int (nI ou)]))], [(nw, .inl (Y 0, 140, .inl (rowF ρ)))]] H locs := hw
    refine x_topI (y := b2i (inZ n.toInt 1 3)) (by rw [Int32.toInt_toInt64]; rfl) ?_
    refine x_beq M (tgt := 61) dX6_runScript_42 (by decide) (fun c_9 => ?_) (fun c_9 => absurd c_9 (fun z => by have h9 := z; rw [hk] at h9; exact absurd h9 (by decide)))
    refine lv_iconst (v := (nI 1)) hx hb dX6_runScript_61 (by decide) ?_
    refine x_cVI (As := [.int (nI 1)]) (k_X6_refused l G Y mo rf tx sz nw tr dy ac kp ik td ch sp ou 1 (by omega)) cw_X6_103 [0] 0 0 M hK hZ hw hl.1 rfl (by decide) rfl rfl rfl ⟨by decide, by decide⟩ ⟨Nat.zero_le _, Nat.zero_le _⟩ rfl rfl (Nat.le_of_ble_eq_true rfl) dX6_runScript_62 (fun r sg h_10 H locs hw => ?_)
    obtain ⟨rfl, rfl⟩ := h_10
    have hw : xW G A s.heap [[(mo, .inr (5, [.int (nI 1), .ref tx, .int (nI sz), .ref nw, .ref tr, .ref dy, .int (nI ac), .ref kp, .ref ik, .ref td, .ref ch, .int (nI sp), .int (nI ou)]))], [(nw, .inl (Y 0, 140, .inl (rowF ρ)))]] H locs := hw
    refine x_beq M (tgt := 70) dX6_runScript_65 (by decide) (fun c_11 => absurd c_11 (fun z => by first | exact absurd z (by decide) | (have := of_decide_eq_true z; omega) | (have := of_decide_eq_false z; omega))) (fun c_11 => ?_)
    refine lv_iconst (v := (nI 0)) hx hb dX6_runScript_68 (by decide) ?_
    exact hret _ _ _ (nI 0) _ _ dX6_runScript_69 hw rfl rfl ⟨rfl, rfl⟩
  refine lv_iload hx hb dX6_runScript_12 (lv_at hl 0 rfl) ?_
  refine lv_iconst (v := (nI 3)) hx hb dX6_runScript_14 (by decide) ?_
  refine x_cge M (tgt := 32) (by decide) (by decide) dX6_runScript_15 (by decide) (fun c_12 => absurd c_12 (by decide)) (fun c_12 => ?_)
  refine lv_lload hx hb dX6_runScript_18 (lv_at hl 1 rfl) ?_
  refine lv_ldc2 (v := 100000) hx hb M.2.2.2.1 (M.2.2.2.2 _ mw_1289) dX6_runScript_20 ?_
  refine lv_lmul hx hb dX6_runScript_23 ?_
  refine lv_lstore (lv' := [(4, .long ((1 * 100000) * 100000)), (6, .int (nI 1)), (0, .ref mo), (1, .int n), (2, .long sc)]) hx hb dX6_runScript_24 hl (by decide) rfl (fun ls hl => ?_)
  refine lv_iinc (v := (nI 2)) (lv' := [(6, .int (nI 2)), (4, .long ((1 * 100000) * 100000)), (0, .ref mo), (1, .int n), (2, .long sc)]) hx hb dX6_runScript_26 hl (k := 1) rfl (by decide) (by decide) rfl (fun ls hl => ?_)
  refine lv_goto (tgt := 6) hx hb dX6_runScript_29 (by decide) ?_
  refine lv_iload hx hb dX6_runScript_6 (lv_at hl 0 rfl) ?_
  refine lv_iload_n hx hb dX6_runScript_8 rfl (lv_at hl 3 rfl) ?_
  refine lv_icmp_ge (tgt := 32) hx hb dX6_runScript_9 (by decide) (fun c_13 => ?_) (fun c_13 => ?_)
  · refine lv_aload_n hx hb dX6_runScript_32 rfl (lv_at hl 2 rfl) ?_
    refine lv_iload_n hx hb dX6_runScript_33 rfl (lv_at hl 3 rfl) ?_
    refine lv_i2l (v := n.toInt64) hx hb dX6_runScript_34 rfl ?_
    refine lv_lconst (v := 1) hx hb dX6_runScript_35 (by decide) ?_
    refine lv_ldc2 (v := 3) hx hb M.2.2.2.1 (M.2.2.2.2 _ mw_1157) dX6_runScript_36 ?_
    refine x_cSI (As := [.long n.toInt64, .long 1, .long 3]) (k_X6_in l G Y n.toInt64 1 3) cw_X6_45 [] M hK hZ hw hl.1 rfl (by decide) ⟨by decide, by decide⟩ ⟨Nat.zero_le _, Nat.zero_le _⟩ rfl rfl (Nat.le_of_ble_eq_true rfl) dX6_runScript_39 (fun r sg h_14 H locs hw => ?_)
    obtain ⟨rfl, rfl⟩ := h_14
    have hw : xW G A s.heap [[(mo, .inr (5, [.int (nI rf), .ref tx, .int (nI sz), .ref nw, .ref tr, .ref dy, .int (nI ac), .ref kp, .ref ik, .ref td, .ref ch, .int (nI sp), .int (nI ou)]))], [(nw, .inl (Y 0, 140, .inl (rowF ρ)))]] H locs := hw
    refine x_topI (y := b2i (inZ n.toInt 1 3)) (by rw [Int32.toInt_toInt64]; rfl) ?_
    refine x_beq M (tgt := 61) dX6_runScript_42 (by decide) (fun c_15 => ?_) (fun c_15 => absurd c_15 (fun z => by have h9 := z; rw [hk] at h9; exact absurd h9 (by decide)))
    refine lv_iconst (v := (nI 1)) hx hb dX6_runScript_61 (by decide) ?_
    refine x_cVI (As := [.int (nI 1)]) (k_X6_refused l G Y mo rf tx sz nw tr dy ac kp ik td ch sp ou 1 (by omega)) cw_X6_103 [0] 0 0 M hK hZ hw hl.1 rfl (by decide) rfl rfl rfl ⟨by decide, by decide⟩ ⟨Nat.zero_le _, Nat.zero_le _⟩ rfl rfl (Nat.le_of_ble_eq_true rfl) dX6_runScript_62 (fun r sg h_16 H locs hw => ?_)
    obtain ⟨rfl, rfl⟩ := h_16
    have hw : xW G A s.heap [[(mo, .inr (5, [.int (nI 1), .ref tx, .int (nI sz), .ref nw, .ref tr, .ref dy, .int (nI ac), .ref kp, .ref ik, .ref td, .ref ch, .int (nI sp), .int (nI ou)]))], [(nw, .inl (Y 0, 140, .inl (rowF ρ)))]] H locs := hw
    refine x_beq M (tgt := 70) dX6_runScript_65 (by decide) (fun c_17 => absurd c_17 (fun z => by first | exact absurd z (by decide) | (have := of_decide_eq_true z; omega) | (have := of_decide_eq_false z; omega))) (fun c_17 => ?_)
    refine lv_iconst (v := (nI 0)) hx hb dX6_runScript_68 (by decide) ?_
    exact hret _ _ _ (nI 0) _ _ dX6_runScript_69 hw rfl rfl ⟨rfl, rfl⟩
  refine lv_iload hx hb dX6_runScript_12 (lv_at hl 0 rfl) ?_
  refine lv_iconst (v := (nI 3)) hx hb dX6_runScript_14 (by decide) ?_
  refine x_cge M (tgt := 32) (by decide) (by decide) dX6_runScript_15 (by decide) (fun c_18 => absurd c_18 (by decide)) (fun c_18 => ?_)
  refine lv_lload hx hb dX6_runScript_18 (lv_at hl 1 rfl) ?_
  refine lv_ldc2 (v := 100000) hx hb M.2.2.2.1 (M.2.2.2.2 _ mw_1289) dX6_runScript_20 ?_
  refine lv_lmul hx hb dX6_runScript_23 ?_
  refine lv_lstore (lv' := [(4, .long (((1 * 100000) * 100000) * 100000)), (6, .int (nI 2)), (0, .ref mo), (1, .int n), (2, .long sc)]) hx hb dX6_runScript_24 hl (by decide) rfl (fun ls hl => ?_)
  refine lv_iinc (v := (nI 3)) (lv' := [(6, .int (nI 3)), (4, .long (((1 * 100000) * 100000) * 100000)), (0, .ref mo), (1, .int n), (2, .long sc)]) hx hb dX6_runScript_26 hl (k := 1) rfl (by decide) (by decide) rfl (fun ls hl => ?_)
  refine lv_goto (tgt := 6) hx hb dX6_runScript_29 (by decide) ?_
  refine lv_iload hx hb dX6_runScript_6 (lv_at hl 0 rfl) ?_
  refine lv_iload_n hx hb dX6_runScript_8 rfl (lv_at hl 3 rfl) ?_
  refine lv_icmp_ge (tgt := 32) hx hb dX6_runScript_9 (by decide) (fun c_19 => ?_) (fun c_19 => ?_)
  · refine lv_aload_n hx hb dX6_runScript_32 rfl (lv_at hl 2 rfl) ?_
    refine lv_iload_n hx hb dX6_runScript_33 rfl (lv_at hl 3 rfl) ?_
    refine lv_i2l (v := n.toInt64) hx hb dX6_runScript_34 rfl ?_
    refine lv_lconst (v := 1) hx hb dX6_runScript_35 (by decide) ?_
    refine lv_ldc2 (v := 3) hx hb M.2.2.2.1 (M.2.2.2.2 _ mw_1157) dX6_runScript_36 ?_
    refine x_cSI (As := [.long n.toInt64, .long 1, .long 3]) (k_X6_in l G Y n.toInt64 1 3) cw_X6_45 [] M hK hZ hw hl.1 rfl (by decide) ⟨by decide, by decide⟩ ⟨Nat.zero_le _, Nat.zero_le _⟩ rfl rfl (Nat.le_of_ble_eq_true rfl) dX6_runScript_39 (fun r sg h_20 H locs hw => ?_)
    obtain ⟨rfl, rfl⟩ := h_20
    have hw : xW G A s.heap [[(mo, .inr (5, [.int (nI rf), .ref tx, .int (nI sz), .ref nw, .ref tr, .ref dy, .int (nI ac), .ref kp, .ref ik, .ref td, .ref ch, .int (nI sp), .int (nI ou)]))], [(nw, .inl (Y 0, 140, .inl (rowF ρ)))]] H locs := hw
    refine x_topI (y := b2i (inZ n.toInt 1 3)) (by rw [Int32.toInt_toInt64]; rfl) ?_
    refine x_beq M (tgt := 61) dX6_runScript_42 (by decide) (fun c_21 => ?_) (fun c_21 => absurd c_21 (fun z => by have h9 := z; rw [hk] at h9; exact absurd h9 (by decide)))
    refine lv_iconst (v := (nI 1)) hx hb dX6_runScript_61 (by decide) ?_
    refine x_cVI (As := [.int (nI 1)]) (k_X6_refused l G Y mo rf tx sz nw tr dy ac kp ik td ch sp ou 1 (by omega)) cw_X6_103 [0] 0 0 M hK hZ hw hl.1 rfl (by decide) rfl rfl rfl ⟨by decide, by decide⟩ ⟨Nat.zero_le _, Nat.zero_le _⟩ rfl rfl (Nat.le_of_ble_eq_true rfl) dX6_runScript_62 (fun r sg h_22 H locs hw => ?_)
    obtain ⟨rfl, rfl⟩ := h_22
    have hw : xW G A s.heap [[(mo, .inr (5, [.int (nI 1), .ref tx, .int (nI sz), .ref nw, .ref tr, .ref dy, .int (nI ac), .ref kp, .ref ik, .ref td, .ref ch, .int (nI sp), .int (nI ou)]))], [(nw, .inl (Y 0, 140, .inl (rowF ρ)))]] H locs := hw
    refine x_beq M (tgt := 70) dX6_runScript_65 (by decide) (fun c_23 => absurd c_23 (fun z => by first | exact absurd z (by decide) | (have := of_decide_eq_true z; omega) | (have := of_decide_eq_false z; omega))) (fun c_23 => ?_)
    refine lv_iconst (v := (nI 0)) hx hb dX6_runScript_68 (by decide) ?_
    exact hret _ _ _ (nI 0) _ _ dX6_runScript_69 hw rfl rfl ⟨rfl, rfl⟩
  refine lv_iload hx hb dX6_runScript_12 (lv_at hl 0 rfl) ?_
  refine lv_iconst (v := (nI 3)) hx hb dX6_runScript_14 (by decide) ?_
  refine x_cge M (tgt := 32) (by decide) (by decide) dX6_runScript_15 (by decide) (fun c_24 => ?_) (fun c_24 => absurd c_24 (by decide))
  refine lv_aload_n hx hb dX6_runScript_32 rfl (lv_at hl 2 rfl) ?_
  refine lv_iload_n hx hb dX6_runScript_33 rfl (lv_at hl 3 rfl) ?_
  refine lv_i2l (v := n.toInt64) hx hb dX6_runScript_34 rfl ?_
  refine lv_lconst (v := 1) hx hb dX6_runScript_35 (by decide) ?_
  refine lv_ldc2 (v := 3) hx hb M.2.2.2.1 (M.2.2.2.2 _ mw_1157) dX6_runScript_36 ?_
  refine x_cSI (As := [.long n.toInt64, .long 1, .long 3]) (k_X6_in l G Y n.toInt64 1 3) cw_X6_45 [] M hK hZ hw hl.1 rfl (by decide) ⟨by decide, by decide⟩ ⟨Nat.zero_le _, Nat.zero_le _⟩ rfl rfl (Nat.le_of_ble_eq_true rfl) dX6_runScript_39 (fun r sg h_25 H locs hw => ?_)
  obtain ⟨rfl, rfl⟩ := h_25
  have hw : xW G A s.heap [[(mo, .inr (5, [.int (nI rf), .ref tx, .int (nI sz), .ref nw, .ref tr, .ref dy, .int (nI ac), .ref kp, .ref ik, .ref td, .ref ch, .int (nI sp), .int (nI ou)]))], [(nw, .inl (Y 0, 140, .inl (rowF ρ)))]] H locs := hw
  refine x_topI (y := b2i (inZ n.toInt 1 3)) (by rw [Int32.toInt_toInt64]; rfl) ?_
  refine x_beq M (tgt := 61) dX6_runScript_42 (by decide) (fun c_26 => ?_) (fun c_26 => absurd c_26 (fun z => by have h9 := z; rw [hk] at h9; exact absurd h9 (by decide)))
  refine lv_iconst (v := (nI 1)) hx hb dX6_runScript_61 (by decide) ?_
  refine x_cVI (As := [.int (nI 1)]) (k_X6_refused l G Y mo rf tx sz nw tr dy ac kp ik td ch sp ou 1 (by omega)) cw_X6_103 [0] 0 0 M hK hZ hw hl.1 rfl (by decide) rfl rfl rfl ⟨by decide, by decide⟩ ⟨Nat.zero_le _, Nat.zero_le _⟩ rfl rfl (Nat.le_of_ble_eq_true rfl) dX6_runScript_62 (fun r sg h_27 H locs hw => ?_)
  obtain ⟨rfl, rfl⟩ := h_27
  have hw : xW G A s.heap [[(mo, .inr (5, [.int (nI 1), .ref tx, .int (nI sz), .ref nw, .ref tr, .ref dy, .int (nI ac), .ref kp, .ref ik, .ref td, .ref ch, .int (nI sp), .int (nI ou)]))], [(nw, .inl (Y 0, 140, .inl (rowF ρ)))]] H locs := hw
  refine x_beq M (tgt := 70) dX6_runScript_65 (by decide) (fun c_28 => absurd c_28 (fun z => by first | exact absurd z (by decide) | (have := of_decide_eq_true z; omega) | (have := of_decide_eq_false z; omega))) (fun c_28 => ?_)
  refine lv_iconst (v := (nI 0)) hx hb dX6_runScript_68 (by decide) ?_
  exact hret _ _ _ (nI 0) _ _ dX6_runScript_69 hw rfl rfl ⟨rfl, rfl⟩
set_option maxHeartbeats 4000000 in
set_option maxRecDepth 20000 in
theorem f_X6_runScript_2 (l : Launch) (G : va_G) (Y : Nat → Nat) (mo rf tx sz nw tr dy ac kp ik td ch sp ou : Nat) (ρ : Nat → Nat) (n : Nat) (sc : Int64) (hn : 1 ≤ n ∧ n ≤ 3) (hk1 : ¬ (0 ≤ sc.toInt ∧ sc.toInt < 100000 * (((if n = 1 then 1 else if n = 2 then 100000 else 10000000000 : Nat)) : Int))) : CtI l yX6_runScript cX6_runScript 8 .int 1 25 [.ref mo, .int (nI n), .long sc] [[(mo, .inr (5, [.int (nI rf), .ref tx, .int (nI sz), .ref nw, .ref tr, .ref dy, .int (nI ac), .ref kp, .ref ik, .ref td, .ref ch, .int (nI sp), .int (nI ou)]))], [(nw, .inl (Y 0, 140, .inl (rowF ρ)))]] (fun r sg => r = nI 0 ∧ sg = [[(mo, .inr (5, [.int (nI 1), .ref tx, .int (nI sz), .ref nw, .ref tr, .ref dy, .int (nI ac), .ref kp, .ref ik, .ref td, .ref ch, .int (nI sp), .int (nI ou)]))], [(nw, .inl (Y 0, 140, .inl (rowF ρ)))]]) G Y := by
  refine x_ofI (by decide) (Nat.le_of_ble_eq_true rfl) (fun p e s m args below meth c A ls Q M hK hZ hw hl hret => ?_)
  obtain ⟨hx, hb, -⟩ := id M
  have hl : lv_has ls 8 [(0, .ref mo), (1, .int (nI n)), (2, .long sc)] := hl
  rcases (show n = 1 ∨ n = 2 ∨ n = 3 by omega) with rfl | rfl | rfl
  · have hk : inZ sc.toInt 0 99999 = false := decide_eq_false (fun z => hk1 ⟨z.1, by have := z.2; simp only [reduceIte, Nat.reduceEqDiff]; omega⟩)
    refine lv_lconst (v := 1) hx hb dX6_runScript_0 (by decide) ?_
    refine x_topL (y := (lN 1)) rfl ?_
    refine lv_lstore (lv' := [(4, .long (lN 1)), (0, .ref mo), (1, .int (nI 1)), (2, .long sc)]) hx hb dX6_runScript_1 hl (by decide) rfl (fun ls hl => ?_)
    refine lv_iconst (v := (nI 0)) hx hb dX6_runScript_3 (by decide) ?_
    refine lv_istore (lv' := [(6, .int (nI 0)), (4, .long (lN 1)), (0, .ref mo), (1, .int (nI 1)), (2, .long sc)]) hx hb dX6_runScript_4 hl (by decide) rfl (fun ls hl => ?_)
    refine lv_iload hx hb dX6_runScript_6 (lv_at hl 0 rfl) ?_
    refine lv_iload_n hx hb dX6_runScript_8 rfl (lv_at hl 3 rfl) ?_
    refine x_cge M (tgt := 32) (by decide) (by decide) dX6_runScript_9 (by decide) (fun c_1 => absurd c_1 (by decide)) (fun c_1 => ?_)
    refine lv_iload hx hb dX6_runScript_12 (lv_at hl 0 rfl) ?_
    refine lv_iconst (v := (nI 3)) hx hb dX6_runScript_14 (by decide) ?_
    refine x_cge M (tgt := 32) (by decide) (by decide) dX6_runScript_15 (by decide) (fun c_2 => absurd c_2 (by decide)) (fun c_2 => ?_)
    refine lv_lload hx hb dX6_runScript_18 (lv_at hl 1 rfl) ?_
    refine lv_ldc2 (v := 100000) hx hb M.2.2.2.1 (M.2.2.2.2 _ mw_1289) dX6_runScript_20 ?_
    refine lv_lmul hx hb dX6_runScript_23 ?_
    refine x_topL (y := (lN 100000)) rfl ?_
    refine lv_lstore (lv' := [(4, .long (lN 100000)), (6, .int (nI 0)), (0, .ref mo), (1, .int (nI 1)), (2, .long sc)]) hx hb dX6_runScript_24 hl (by decide) rfl (fun ls hl => ?_)
    refine lv_iinc (v := (nI 1)) (lv' := [(6, .int (nI 1)), (4, .long (lN 100000)), (0, .ref mo), (1, .int (nI 1)), (2, .long sc)]) hx hb dX6_runScript_26 hl (k := 1) rfl (by decide) (by decide) rfl (fun ls hl => ?_)
    refine lv_goto (tgt := 6) hx hb dX6_runScript_29 (by decide) ?_
    refine lv_iload hx hb dX6_runScript_6 (lv_at hl 0 rfl) ?_
    refine lv_iload_n hx hb dX6_runScript_8 rfl (lv_at hl 3 rfl) ?_
    refine x_cge M (tgt := 32) (by decide) (by decide) dX6_runScript_9 (by decide) (fun c_3 => ?_) (fun c_3 => absurd c_3 (by decide))
    refine lv_aload_n hx hb dX6_runScript_32 rfl (lv_at hl 2 rfl) ?_
    refine lv_iload_n hx hb dX6_runScript_33 rfl (lv_at hl 3 rfl) ?_
    refine lv_i2l (v := (nI 1).toInt64) hx hb dX6_runScript_34 rfl ?_
    refine lv_lconst (v := 1) hx hb dX6_runScript_35 (by decide) ?_
    refine lv_ldc2 (v := 3) hx hb M.2.2.2.1 (M.2.2.2.2 _ mw_1157) dX6_runScript_36 ?_
    refine x_cSI (As := [.long ((nI 1).toInt64), .long 1, .long 3]) (k_X6_in l G Y ((nI 1).toInt64) 1 3) cw_X6_45 [] M hK hZ hw hl.1 rfl (by decide) ⟨by decide, by decide⟩ ⟨Nat.zero_le _, Nat.zero_le _⟩ rfl rfl (Nat.le_of_ble_eq_true rfl) dX6_runScript_39 (fun r sg h_4 H locs hw => ?_)
    obtain ⟨rfl, rfl⟩ := h_4
    have hw : xW G A s.heap [[(mo, .inr (5, [.int (nI rf), .ref tx, .int (nI sz), .ref nw, .ref tr, .ref dy, .int (nI ac), .ref kp, .ref ik, .ref td, .ref ch, .int (nI sp), .int (nI ou)]))], [(nw, .inl (Y 0, 140, .inl (rowF ρ)))]] H locs := hw
    refine x_topI (y := b2i (inZ (nI 1).toInt 1 3)) (by rw [Int32.toInt_toInt64]; rfl) ?_
    refine x_beq M (tgt := 61) dX6_runScript_42 (by decide) (fun c_5 => absurd c_5 (fun z => pzF (a := 1) (b := 3) z (by decide) ⟨by decide, by decide⟩)) (fun c_5 => ?_)
    refine lv_lload_n hx hb dX6_runScript_45 rfl (lv_at hl 4 rfl) ?_
    refine lv_lconst (v := 0) hx hb dX6_runScript_46 (by decide) ?_
    refine lv_lload hx hb dX6_runScript_47 (lv_at hl 1 rfl) ?_
    refine lv_lconst (v := 1) hx hb dX6_runScript_49 (by decide) ?_
    refine lv_lsub hx hb dX6_runScript_50 ?_
    refine x_cSI (As := [.long sc, .long 0, .long ((lN 100000) - 1)]) (k_X6_in l G Y sc 0 ((lN 100000) - 1)) cw_X6_45 [] M hK hZ hw hl.1 rfl (by decide) ⟨by decide, by decide⟩ ⟨Nat.zero_le _, Nat.zero_le _⟩ rfl rfl (Nat.le_of_ble_eq_true rfl) dX6_runScript_51 (fun r sg h_6 H locs hw => ?_)
    obtain ⟨rfl, rfl⟩ := h_6
    have hw : xW G A s.heap [[(mo, .inr (5, [.int (nI rf), .ref tx, .int (nI sz), .ref nw, .ref tr, .ref dy, .int (nI ac), .ref kp, .ref ik, .ref td, .ref ch, .int (nI sp), .int (nI ou)]))], [(nw, .inl (Y 0, 140, .inl (rowF ρ)))]] H locs := hw
    refine x_topI (y := b2i (inZ sc.toInt 0 99999)) rfl ?_
    refine x_beq M (tgt := 61) dX6_runScript_54 (by decide) (fun c_7 => ?_) (fun c_7 => absurd c_7 (fun z => by have h9 := z; rw [hk] at h9; exact absurd h9 (by decide)))
    refine lv_iconst (v := (nI 1)) hx hb dX6_runScript_61 (by decide) ?_
    refine x_cVI (As := [.int (nI 1)]) (k_X6_refused l G Y mo rf tx sz nw tr dy ac kp ik td ch sp ou 1 (by omega)) cw_X6_103 [0] 0 0 M hK hZ hw hl.1 rfl (by decide) rfl rfl rfl ⟨by decide, by decide⟩ ⟨Nat.zero_le _, Nat.zero_le _⟩ rfl rfl (Nat.le_of_ble_eq_true rfl) dX6_runScript_62 (fun r sg h_8 H locs hw => ?_)
    obtain ⟨rfl, rfl⟩ := h_8
    have hw : xW G A s.heap [[(mo, .inr (5, [.int (nI 1), .ref tx, .int (nI sz), .ref nw, .ref tr, .ref dy, .int (nI ac), .ref kp, .ref ik, .ref td, .ref ch, .int (nI sp), .int (nI ou)]))], [(nw, .inl (Y 0, 140, .inl (rowF ρ)))]] H locs := hw
    refine x_beq M (tgt := 70) dX6_runScript_65 (by decide) (fun c_9 => absurd c_9 (fun z => by first | exact absurd z (by decide) | (have := of_decide_eq_true z; omega) | (have := of_decide_eq_false z; omega))) (fun c_9 => ?_)
    refine lv_iconst (v := (nI 0)) hx hb dX6_runScript_68 (by decide) ?_
    exact hret _ _ _ (nI 0) _ _ dX6_runScript_69 hw rfl rfl ⟨rfl, rfl⟩
  · have hk : inZ sc.toInt 0 9999999999 = false := decide_eq_false (fun z => hk1 ⟨z.1, by have := z.2; simp only [reduceIte, Nat.reduceEqDiff]; omega⟩)
    refine lv_lconst (v := 1) hx hb dX6_runScript_0 (by decide) ?_
    refine x_topL (y := (lN 1)) rfl ?_
    refine lv_lstore (lv' := [(4, .long (lN 1)), (0, .ref mo), (1, .int (nI 2)), (2, .long sc)]) hx hb dX6_runScript_1 hl (by decide) rfl (fun ls hl => ?_)
    refine lv_iconst (v := (nI 0)) hx hb dX6_runScript_3 (by decide) ?_
    refine lv_istore (lv' := [(6, .int (nI 0)), (4, .long (lN 1)), (0, .ref mo), (1, .int (nI 2)), (2, .long sc)]) hx hb dX6_runScript_4 hl (by decide) rfl (fun ls hl => ?_)
    refine lv_iload hx hb dX6_runScript_6 (lv_at hl 0 rfl) ?_
    refine lv_iload_n hx hb dX6_runScript_8 rfl (lv_at hl 3 rfl) ?_
    refine x_cge M (tgt := 32) (by decide) (by decide) dX6_runScript_9 (by decide) (fun c_10 => absurd c_10 (by decide)) (fun c_10 => ?_)
    refine lv_iload hx hb dX6_runScript_12 (lv_at hl 0 rfl) ?_
    refine lv_iconst (v := (nI 3)) hx hb dX6_runScript_14 (by decide) ?_
    refine x_cge M (tgt := 32) (by decide) (by decide) dX6_runScript_15 (by decide) (fun c_11 => absurd c_11 (by decide)) (fun c_11 => ?_)
    refine lv_lload hx hb dX6_runScript_18 (lv_at hl 1 rfl) ?_
    refine lv_ldc2 (v := 100000) hx hb M.2.2.2.1 (M.2.2.2.2 _ mw_1289) dX6_runScript_20 ?_
    refine lv_lmul hx hb dX6_runScript_23 ?_
    refine x_topL (y := (lN 100000)) rfl ?_
    refine lv_lstore (lv' := [(4, .long (lN 100000)), (6, .int (nI 0)), (0, .ref mo), (1, .int (nI 2)), (2, .long sc)]) hx hb dX6_runScript_24 hl (by decide) rfl (fun ls hl => ?_)
    refine lv_iinc (v := (nI 1)) (lv' := [(6, .int (nI 1)), (4, .long (lN 100000)), (0, .ref mo), (1, .int (nI 2)), (2, .long sc)]) hx hb dX6_runScript_26 hl (k := 1) rfl (by decide) (by decide) rfl (fun ls hl => ?_)
    refine lv_goto (tgt := 6) hx hb dX6_runScript_29 (by decide) ?_
    refine lv_iload hx hb dX6_runScript_6 (lv_at hl 0 rfl) ?_
    refine lv_iload_n hx hb dX6_runScript_8 rfl (lv_at hl 3 rfl) ?_
    refine x_cge M (tgt := 32) (by decide) (by decide) dX6_runScript_9 (by decide) (fun c_12 => absurd c_12 (by decide)) (fun c_12 => ?_)
    refine lv_iload hx hb dX6_runScript_12 (lv_at hl 0 rfl) ?_
    refine lv_iconst (v := (nI 3)) hx hb dX6_runScript_14 (by decide) ?_
    refine x_cge M (tgt := 32) (by decide) (by decide) dX6_runScript_15 (by decide) (fun c_13 => absurd c_13 (by decide)) (fun c_13 => ?_)
    refine lv_lload hx hb dX6_runScript_18 (lv_at hl 1 rfl) ?_
    refine lv_ldc2 (v := 100000) hx hb M.2.2.2.1 (M.2.2.2.2 _ mw_1289) dX6_runScript_20 ?_
    refine lv_lmul hx hb dX6_runScript_23 ?_
    refine x_topL (y := (lN 10000000000)) rfl ?_
    refine lv_lstore (lv' := [(4, .long (lN 10000000000)), (6, .int (nI 1)), (0, .ref mo), (1, .int (nI 2)), (2, .long sc)]) hx hb dX6_runScript_24 hl (by decide) rfl (fun ls hl => ?_)
    refine lv_iinc (v := (nI 2)) (lv' := [(6, .int (nI 2)), (4, .long (lN 10000000000)), (0, .ref mo), (1, .int (nI 2)), (2, .long sc)]) hx hb dX6_runScript_26 hl (k := 1) rfl (by decide) (by decide) rfl (fun ls hl => ?_)
    refine lv_goto (tgt := 6) hx hb dX6_runScript_29 (by decide) ?_
    refine lv_iload hx hb dX6_runScript_6 (lv_at hl 0 rfl) ?_
    refine lv_iload_n hx hb dX6_runScript_8 rfl (lv_at hl 3 rfl) ?_
    refine x_cge M (tgt := 32) (by decide) (by decide) dX6_runScript_9 (by decide) (fun c_14 => ?_) (fun c_14 => absurd c_14 (by decide))
    refine lv_aload_n hx hb dX6_runScript_32 rfl (lv_at hl 2 rfl) ?_
    refine lv_iload_n hx hb dX6_runScript_33 rfl (lv_at hl 3 rfl) ?_
    refine lv_i2l (v := (nI 2).toInt64) hx hb dX6_runScript_34 rfl ?_
    refine lv_lconst (v := 1) hx hb dX6_runScript_35 (by decide) ?_
    refine lv_ldc2 (v := 3) hx hb M.2.2.2.1 (M.2.2.2.2 _ mw_1157) dX6_runScript_36 ?_
    refine x_cSI (As := [.long ((nI 2).toInt64), .long 1, .long 3]) (k_X6_in l G Y ((nI 2).toInt64) 1 3) cw_X6_45 [] M hK hZ hw hl.1 rfl (by decide) ⟨by decide, by decide⟩ ⟨Nat.zero_le _, Nat.zero_le _⟩ rfl rfl (Nat.le_of_ble_eq_true rfl) dX6_runScript_39 (fun r sg h_15 H locs hw => ?_)
    obtain ⟨rfl, rfl⟩ := h_15
    have hw : xW G A s.heap [[(mo, .inr (5, [.int (nI rf), .ref tx, .int (nI sz), .ref nw, .ref tr, .ref dy, .int (nI ac), .ref kp, .ref ik, .ref td, .ref ch, .int (nI sp), .int (nI ou)]))], [(nw, .inl (Y 0, 140, .inl (rowF ρ)))]] H locs := hw
    refine x_topI (y := b2i (inZ (nI 2).toInt 1 3)) (by rw [Int32.toInt_toInt64]; rfl) ?_
    refine x_beq M (tgt := 61) dX6_runScript_42 (by decide) (fun c_16 => absurd c_16 (fun z => pzF (a := 1) (b := 3) z (by decide) ⟨by decide, by decide⟩)) (fun c_16 => ?_)
    refine lv_lload_n hx hb dX6_runScript_45 rfl (lv_at hl 4 rfl) ?_
    refine lv_lconst (v := 0) hx hb dX6_runScript_46 (by decide) ?_
    refine lv_lload hx hb dX6_runScript_47 (lv_at hl 1 rfl) ?_
    refine lv_lconst (v := 1) hx hb dX6_runScript_49 (by decide) ?_
    refine lv_lsub hx hb dX6_runScript_50 ?_
    refine x_cSI (As := [.long sc, .long 0, .long ((lN 10000000000) - 1)]) (k_X6_in l G Y sc 0 ((lN 10000000000) - 1)) cw_X6_45 [] M hK hZ hw hl.1 rfl (by decide) ⟨by decide, by decide⟩ ⟨Nat.zero_le _, Nat.zero_le _⟩ rfl rfl (Nat.le_of_ble_eq_true rfl) dX6_runScript_51 (fun r sg h_17 H locs hw => ?_)
    obtain ⟨rfl, rfl⟩ := h_17
    have hw : xW G A s.heap [[(mo, .inr (5, [.int (nI rf), .ref tx, .int (nI sz), .ref nw, .ref tr, .ref dy, .int (nI ac), .ref kp, .ref ik, .ref td, .ref ch, .int (nI sp), .int (nI ou)]))], [(nw, .inl (Y 0, 140, .inl (rowF ρ)))]] H locs := hw
    refine x_topI (y := b2i (inZ sc.toInt 0 9999999999)) rfl ?_
    refine x_beq M (tgt := 61) dX6_runScript_54 (by decide) (fun c_18 => ?_) (fun c_18 => absurd c_18 (fun z => by have h9 := z; rw [hk] at h9; exact absurd h9 (by decide)))
    refine lv_iconst (v := (nI 1)) hx hb dX6_runScript_61 (by decide) ?_
    refine x_cVI (As := [.int (nI 1)]) (k_X6_refused l G Y mo rf tx sz nw tr dy ac kp ik td ch sp ou 1 (by omega)) cw_X6_103 [0] 0 0 M hK hZ hw hl.1 rfl (by decide) rfl rfl rfl ⟨by decide, by decide⟩ ⟨Nat.zero_le _, Nat.zero_le _⟩ rfl rfl (Nat.le_of_ble_eq_true rfl) dX6_runScript_62 (fun r sg h_19 H locs hw => ?_)
    obtain ⟨rfl, rfl⟩ := h_19
    have hw : xW G A s.heap [[(mo, .inr (5, [.int (nI 1), .ref tx, .int (nI sz), .ref nw, .ref tr, .ref dy, .int (nI ac), .ref kp, .ref ik, .ref td, .ref ch, .int (nI sp), .int (nI ou)]))], [(nw, .inl (Y 0, 140, .inl (rowF ρ)))]] H locs := hw
    refine x_beq M (tgt := 70) dX6_runScript_65 (by decide) (fun c_20 => absurd c_20 (fun z => by first | exact absurd z (by decide) | (have := of_decide_eq_true z; omega) | (have := of_decide_eq_false z; omega))) (fun c_20 => ?_)
    refine lv_iconst (v := (nI 0)) hx hb dX6_runScript_68 (by decide) ?_
    exact hret _ _ _ (nI 0) _ _ dX6_runScript_69 hw rfl rfl ⟨rfl, rfl⟩
  · have hk : inZ sc.toInt 0 999999999999999 = false := decide_eq_false (fun z => hk1 ⟨z.1, by have := z.2; simp only [reduceIte, Nat.reduceEqDiff]; omega⟩)
    refine lv_lconst (v := 1) hx hb dX6_runScript_0 (by decide) ?_
    refine x_topL (y := (lN 1)) rfl ?_
    refine lv_lstore (lv' := [(4, .long (lN 1)), (0, .ref mo), (1, .int (nI 3)), (2, .long sc)]) hx hb dX6_runScript_1 hl (by decide) rfl (fun ls hl => ?_)
    refine lv_iconst (v := (nI 0)) hx hb dX6_runScript_3 (by decide) ?_
    refine lv_istore (lv' := [(6, .int (nI 0)), (4, .long (lN 1)), (0, .ref mo), (1, .int (nI 3)), (2, .long sc)]) hx hb dX6_runScript_4 hl (by decide) rfl (fun ls hl => ?_)
    refine lv_iload hx hb dX6_runScript_6 (lv_at hl 0 rfl) ?_
    refine lv_iload_n hx hb dX6_runScript_8 rfl (lv_at hl 3 rfl) ?_
    refine x_cge M (tgt := 32) (by decide) (by decide) dX6_runScript_9 (by decide) (fun c_21 => absurd c_21 (by decide)) (fun c_21 => ?_)
    refine lv_iload hx hb dX6_runScript_12 (lv_at hl 0 rfl) ?_
    refine lv_iconst (v := (nI 3)) hx hb dX6_runScript_14 (by decide) ?_
    refine x_cge M (tgt := 32) (by decide) (by decide) dX6_runScript_15 (by decide) (fun c_22 => absurd c_22 (by decide)) (fun c_22 => ?_)
    refine lv_lload hx hb dX6_runScript_18 (lv_at hl 1 rfl) ?_
    refine lv_ldc2 (v := 100000) hx hb M.2.2.2.1 (M.2.2.2.2 _ mw_1289) dX6_runScript_20 ?_
    refine lv_lmul hx hb dX6_runScript_23 ?_
    refine x_topL (y := (lN 100000)) rfl ?_
    refine lv_lstore (lv' := [(4, .long (lN 100000)), (6, .int (nI 0)), (0, .ref mo), (1, .int (nI 3)), (2, .long sc)]) hx hb dX6_runScript_24 hl (by decide) rfl (fun ls hl => ?_)
    refine lv_iinc (v := (nI 1)) (lv' := [(6, .int (nI 1)), (4, .long (lN 100000)), (0, .ref mo), (1, .int (nI 3)), (2, .long sc)]) hx hb dX6_runScript_26 hl (k := 1) rfl (by decide) (by decide) rfl (fun ls hl => ?_)
    refine lv_goto (tgt := 6) hx hb dX6_runScript_29 (by decide) ?_
    refine lv_iload hx hb dX6_runScript_6 (lv_at hl 0 rfl) ?_
    refine lv_iload_n hx hb dX6_runScript_8 rfl (lv_at hl 3 rfl) ?_
    refine x_cge M (tgt := 32) (by decide) (by decide) dX6_runScript_9 (by decide) (fun c_23 => absurd c_23 (by decide)) (fun c_23 => ?_)
    refine lv_iload hx hb dX6_runScript_12 (lv_at hl 0 rfl) ?_
    refine lv_iconst (v := (nI 3)) hx hb dX6_runScript_14 (by decide) ?_
    refine x_cge M (tgt := 32) (by decide) (by decide) dX6_runScript_15 (by decide) (fun c_24 => absurd c_24 (by decide)) (fun c_24 => ?_)
    refine lv_lload hx hb dX6_runScript_18 (lv_at hl 1 rfl) ?_
    refine lv_ldc2 (v := 100000) hx hb M.2.2.2.1 (M.2.2.2.2 _ mw_1289) dX6_runScript_20 ?_
    refine lv_lmul hx hb dX6_runScript_23 ?_
    refine x_topL (y := (lN 10000000000)) rfl ?_
    refine lv_lstore (lv' := [(4, .long (lN 10000000000)), (6, .int (nI 1)), (0, .ref mo), (1, .int (nI 3)), (2, .long sc)]) hx hb dX6_runScript_24 hl (by decide) rfl (fun ls hl => ?_)
    refine lv_iinc (v := (nI 2)) (lv' := [(6, .int (nI 2)), (4, .long (lN 10000000000)), (0, .ref mo), (1, .int (nI 3)), (2, .long sc)]) hx hb dX6_runScript_26 hl (k := 1) rfl (by decide) (by decide) rfl (fun ls hl => ?_)
    refine lv_goto (tgt := 6) hx hb dX6_runScript_29 (by decide) ?_
    refine lv_iload hx hb dX6_runScript_6 (lv_at hl 0 rfl) ?_
    refine lv_iload_n hx hb dX6_runScript_8 rfl (lv_at hl 3 rfl) ?_
    refine x_cge M (tgt := 32) (by decide) (by decide) dX6_runScript_9 (by decide) (fun c_25 => absurd c_25 (by decide)) (fun c_25 => ?_)
    refine lv_iload hx hb dX6_runScript_12 (lv_at hl 0 rfl) ?_
    refine lv_iconst (v := (nI 3)) hx hb dX6_runScript_14 (by decide) ?_
    refine x_cge M (tgt := 32) (by decide) (by decide) dX6_runScript_15 (by decide) (fun c_26 => absurd c_26 (by decide)) (fun c_26 => ?_)
    refine lv_lload hx hb dX6_runScript_18 (lv_at hl 1 rfl) ?_
    refine lv_ldc2 (v := 100000) hx hb M.2.2.2.1 (M.2.2.2.2 _ mw_1289) dX6_runScript_20 ?_
    refine lv_lmul hx hb dX6_runScript_23 ?_
    refine x_topL (y := (lN 1000000000000000)) rfl ?_
    refine lv_lstore (lv' := [(4, .long (lN 1000000000000000)), (6, .int (nI 2)), (0, .ref mo), (1, .int (nI 3)), (2, .long sc)]) hx hb dX6_runScript_24 hl (by decide) rfl (fun ls hl => ?_)
    refine lv_iinc (v := (nI 3)) (lv' := [(6, .int (nI 3)), (4, .long (lN 1000000000000000)), (0, .ref mo), (1, .int (nI 3)), (2, .long sc)]) hx hb dX6_runScript_26 hl (k := 1) rfl (by decide) (by decide) rfl (fun ls hl => ?_)
    refine lv_goto (tgt := 6) hx hb dX6_runScript_29 (by decide) ?_
    refine lv_iload hx hb dX6_runScript_6 (lv_at hl 0 rfl) ?_
    refine lv_iload_n hx hb dX6_runScript_8 rfl (lv_at hl 3 rfl) ?_
    refine x_cge M (tgt := 32) (by decide) (by decide) dX6_runScript_9 (by decide) (fun c_27 => ?_) (fun c_27 => absurd c_27 (by decide))
    refine lv_aload_n hx hb dX6_runScript_32 rfl (lv_at hl 2 rfl) ?_
    refine lv_iload_n hx hb dX6_runScript_33 rfl (lv_at hl 3 rfl) ?_
    refine lv_i2l (v := (nI 3).toInt64) hx hb dX6_runScript_34 rfl ?_
    refine lv_lconst (v := 1) hx hb dX6_runScript_35 (by decide) ?_
    refine lv_ldc2 (v := 3) hx hb M.2.2.2.1 (M.2.2.2.2 _ mw_1157) dX6_runScript_36 ?_
    refine x_cSI (As := [.long ((nI 3).toInt64), .long 1, .long 3]) (k_X6_in l G Y ((nI 3).toInt64) 1 3) cw_X6_45 [] M hK hZ hw hl.1 rfl (by decide) ⟨by decide, by decide⟩ ⟨Nat.zero_le _, Nat.zero_le _⟩ rfl rfl (Nat.le_of_ble_eq_true rfl) dX6_runScript_39 (fun r sg h_28 H locs hw => ?_)
    obtain ⟨rfl, rfl⟩ := h_28
    have hw : xW G A s.heap [[(mo, .inr (5, [.int (nI rf), .ref tx, .int (nI sz), .ref nw, .ref tr, .ref dy, .int (nI ac), .ref kp, .ref ik, .ref td, .ref ch, .int (nI sp), .int (nI ou)]))], [(nw, .inl (Y 0, 140, .inl (rowF ρ)))]] H locs := hw
    refine x_topI (y := b2i (inZ (nI 3).toInt 1 3)) (by rw [Int32.toInt_toInt64]; rfl) ?_
    refine x_beq M (tgt := 61) dX6_runScript_42 (by decide) (fun c_29 => absurd c_29 (fun z => pzF (a := 1) (b := 3) z (by decide) ⟨by decide, by decide⟩)) (fun c_29 => ?_)
    refine lv_lload_n hx hb dX6_runScript_45 rfl (lv_at hl 4 rfl) ?_
    refine lv_lconst (v := 0) hx hb dX6_runScript_46 (by decide) ?_
    refine lv_lload hx hb dX6_runScript_47 (lv_at hl 1 rfl) ?_
    refine lv_lconst (v := 1) hx hb dX6_runScript_49 (by decide) ?_
    refine lv_lsub hx hb dX6_runScript_50 ?_
    refine x_cSI (As := [.long sc, .long 0, .long ((lN 1000000000000000) - 1)]) (k_X6_in l G Y sc 0 ((lN 1000000000000000) - 1)) cw_X6_45 [] M hK hZ hw hl.1 rfl (by decide) ⟨by decide, by decide⟩ ⟨Nat.zero_le _, Nat.zero_le _⟩ rfl rfl (Nat.le_of_ble_eq_true rfl) dX6_runScript_51 (fun r sg h_30 H locs hw => ?_)
    obtain ⟨rfl, rfl⟩ := h_30
    have hw : xW G A s.heap [[(mo, .inr (5, [.int (nI rf), .ref tx, .int (nI sz), .ref nw, .ref tr, .ref dy, .int (nI ac), .ref kp, .ref ik, .ref td, .ref ch, .int (nI sp), .int (nI ou)]))], [(nw, .inl (Y 0, 140, .inl (rowF ρ)))]] H locs := hw
    refine x_topI (y := b2i (inZ sc.toInt 0 999999999999999)) rfl ?_
    refine x_beq M (tgt := 61) dX6_runScript_54 (by decide) (fun c_31 => ?_) (fun c_31 => absurd c_31 (fun z => by have h9 := z; rw [hk] at h9; exact absurd h9 (by decide)))
    refine lv_iconst (v := (nI 1)) hx hb dX6_runScript_61 (by decide) ?_
    refine x_cVI (As := [.int (nI 1)]) (k_X6_refused l G Y mo rf tx sz nw tr dy ac kp ik td ch sp ou 1 (by omega)) cw_X6_103 [0] 0 0 M hK hZ hw hl.1 rfl (by decide) rfl rfl rfl ⟨by decide, by decide⟩ ⟨Nat.zero_le _, Nat.zero_le _⟩ rfl rfl (Nat.le_of_ble_eq_true rfl) dX6_runScript_62 (fun r sg h_32 H locs hw => ?_)
    obtain ⟨rfl, rfl⟩ := h_32
    have hw : xW G A s.heap [[(mo, .inr (5, [.int (nI 1), .ref tx, .int (nI sz), .ref nw, .ref tr, .ref dy, .int (nI ac), .ref kp, .ref ik, .ref td, .ref ch, .int (nI sp), .int (nI ou)]))], [(nw, .inl (Y 0, 140, .inl (rowF ρ)))]] H locs := hw
    refine x_beq M (tgt := 70) dX6_runScript_65 (by decide) (fun c_33 => absurd c_33 (fun z => by first | exact absurd z (by decide) | (have := of_decide_eq_true z; omega) | (have := of_decide_eq_false z; omega))) (fun c_33 => ?_)
    refine lv_iconst (v := (nI 0)) hx hb dX6_runScript_68 (by decide) ?_
    exact hret _ _ _ (nI 0) _ _ dX6_runScript_69 hw rfl rfl ⟨rfl, rfl⟩
set_option maxHeartbeats 4000000 in
set_option maxRecDepth 20000 in
theorem k_X6_simulate (l : Launch) (G : va_G) (Y : Nat → Nat) (mo rf tx sz nw tr dy ac kp ik td ch sp ou : Nat) (ρ : Nat → Nat) (φ : Nat → Nat) (sd : Int64) (k : Nat) (hI : Inv ρ) (hk : 1 ≤ k ∧ k ≤ 99) : CtI l yX6_simulate cX6_simulate 7 .int 6 137 [.ref mo, .long sd, .int (nI k)] [[(mo, .inr (5, [.int (nI rf), .ref tx, .int (nI sz), .ref nw, .ref tr, .ref dy, .int (nI ac), .ref kp, .ref ik, .ref td, .ref ch, .int (nI sp), .int (nI ou)]))], [(nw, .inl (Y 0, 140, .inl (rowF ρ)))], [(tr, .inl (Y 0, 140, .inl (rowF φ)))]] (fun r sg => r = simV ρ (simR k sd ρ) ∧ ∃ (σ' : Nat → Nat), sg = [[(mo, .inr (5, [.int (nI 0), .ref tx, .int (nI sz), .ref nw, .ref tr, .ref dy, .int (nI ac), .ref kp, .ref ik, .ref td, .ref ch, .int (nI sp), .int (nI ou)]))], [(nw, .inl (Y 0, 140, .inl (rowF ρ)))], [(tr, .inl (Y 0, 140, .inl (rowF σ')))]]) G Y := by
  refine x_ofI (by decide) (Nat.le_of_ble_eq_true rfl) (fun p e s m args below meth c A ls Q M hK hZ hw hl hret => ?_)
  obtain ⟨hx, hb, -⟩ := id M
  have hl : lv_has ls 7 [(0, .ref mo), (1, .long sd), (3, .int (nI k))] := hl
  have := hI.n6
  have := hI.over
  have := hI.keep
  have := hI.stepp
  refine lv_aload_n hx hb dX6_simulate_0 rfl (lv_at hl 0 rfl) ?_
  refine lv_iload_n hx hb dX6_simulate_1 rfl (lv_at hl 2 rfl) ?_
  refine lv_i2l (v := (nI k).toInt64) hx hb dX6_simulate_2 rfl ?_
  refine lv_lconst (v := 1) hx hb dX6_simulate_3 (by decide) ?_
  refine lv_ldc2 (v := 99) hx hb M.2.2.2.1 (M.2.2.2.2 _ mw_1085) dX6_simulate_4 ?_
  refine x_cSI (As := [.long ((nI k).toInt64), .long 1, .long 99]) (k_X6_in l G Y ((nI k).toInt64) 1 99) cw_X6_45 [] M hK hZ hw hl.1 rfl (by decide) ⟨by decide, by decide⟩ ⟨Nat.zero_le _, Nat.zero_le _⟩ rfl rfl (Nat.le_of_ble_eq_true rfl) dX6_simulate_7 (fun r sg h_1 H locs hw => ?_)
  obtain ⟨rfl, rfl⟩ := h_1
  have hw : xW G A s.heap [[(mo, .inr (5, [.int (nI rf), .ref tx, .int (nI sz), .ref nw, .ref tr, .ref dy, .int (nI ac), .ref kp, .ref ik, .ref td, .ref ch, .int (nI sp), .int (nI ou)]))], [(nw, .inl (Y 0, 140, .inl (rowF ρ)))], [(tr, .inl (Y 0, 140, .inl (rowF φ)))]] H locs := hw
  refine x_topI (y := b2i (inZ (nI k).toInt 1 99)) (by rw [Int32.toInt_toInt64]; rfl) ?_
  refine x_beq M (tgt := 17) dX6_simulate_10 (by decide) (fun c_2 => absurd c_2 (fun z => pzF z (by omega) ⟨by omega, by omega⟩)) (fun c_2 => ?_)
  refine lv_iconst (v := (nI 0)) hx hb dX6_simulate_13 (by decide) ?_
  refine lv_goto (tgt := 18) hx hb dX6_simulate_14 (by decide) ?_
  refine x_cVI (As := [.int (nI 0)]) (k_X6_refused l G Y mo rf tx sz nw tr dy ac kp ik td ch sp ou 0 (by omega)) cw_X6_103 [0] 0 0 M hK hZ hw hl.1 rfl (by decide) rfl rfl rfl ⟨by decide, by decide⟩ ⟨Nat.zero_le _, Nat.zero_le _⟩ rfl rfl (Nat.le_of_ble_eq_true rfl) dX6_simulate_18 (fun r sg h_3 H locs hw => ?_)
  obtain ⟨rfl, rfl⟩ := h_3
  have hw : xW G A s.heap [[(mo, .inr (5, [.int (nI 0), .ref tx, .int (nI sz), .ref nw, .ref tr, .ref dy, .int (nI ac), .ref kp, .ref ik, .ref td, .ref ch, .int (nI sp), .int (nI ou)]))], [(nw, .inl (Y 0, 140, .inl (rowF ρ)))], [(tr, .inl (Y 0, 140, .inl (rowF φ)))]] H locs := hw
  refine x_beq M (tgt := 26) dX6_simulate_21 (by decide) (fun c_4 => ?_) (fun c_4 => absurd c_4 (fun z => by first | exact absurd z (by decide) | (have := of_decide_eq_true z; omega) | (have := of_decide_eq_false z; omega)))
  refine lv_aload_n hx hb dX6_simulate_26 rfl (lv_at hl 0 rfl) ?_
  refine x_get M hK hw 0 0 rfl rfl ff_X6_13 rfl dX6_simulate_27 ?_
  refine lv_iconst (v := (nI 0)) hx hb dX6_simulate_30 (by decide) ?_
  refine lv_aload_n hx hb dX6_simulate_31 rfl (lv_at hl 0 rfl) ?_
  refine x_get M hK hw 0 0 rfl rfl ff_X6_16 rfl dX6_simulate_32 ?_
  refine lv_iconst (v := (nI 0)) hx hb dX6_simulate_35 (by decide) ?_
  refine x_cSV (As := [.ref nw, .int (nI 0), .ref tr, .int (nI 0)]) (k_X6_copyState l G Y nw tr 140 140 0 0 ρ φ (by omega) (by omega) (by omega) (by omega)) cw_X6_154 [1, 2] M hK hZ hw hl.1 rfl (by decide) ⟨by decide, by decide⟩ ⟨Nat.zero_le _, Nat.zero_le _⟩ rfl rfl (Nat.le_of_ble_eq_true rfl) dX6_simulate_36 (fun sg h_5 H locs hw => ?_)
  obtain rfl := h_5
  have hw : xW G A s.heap [[(mo, .inr (5, [.int (nI 0), .ref tx, .int (nI sz), .ref nw, .ref tr, .ref dy, .int (nI ac), .ref kp, .ref ik, .ref td, .ref ch, .int (nI sp), .int (nI ou)]))], [(nw, .inl (Y 0, 140, .inl (rowF ρ)))], [(tr, .inl (Y 0, 140, .inl (rowF (cpS ρ φ 0 0 140))))]] H locs := hw
  have hw := row_fold (i := 2) (f' := rowF ρ) hw rfl (fun q hq => congrArg nI (by clear hret hw hl M hK hZ hx hb; have h9 := cpS_in (f := ρ) (g := φ) (fa := 0) (ta := 0) (k := q) (m := 140) hq; simp only [Nat.zero_add] at h9; exact h9.symm))
  have hw : xW G A s.heap [[(mo, .inr (5, [.int (nI 0), .ref tx, .int (nI sz), .ref nw, .ref tr, .ref dy, .int (nI ac), .ref kp, .ref ik, .ref td, .ref ch, .int (nI sp), .int (nI ou)]))], [(nw, .inl (Y 0, 140, .inl (rowF ρ)))], [(tr, .inl (Y 0, 140, .inl (rowF ρ)))]] H locs := hw
  refine lv_lload_n hx hb dX6_simulate_39 rfl (lv_at hl 1 rfl) ?_
  refine lv_lstore (lv' := [(4, .long sd), (0, .ref mo), (1, .long sd), (3, .int (nI k))]) hx hb dX6_simulate_40 hl (by decide) rfl (fun ls hl => ?_)
  refine lv_iconst (v := (nI 0)) hx hb dX6_simulate_42 (by decide) ?_
  refine lv_istore (lv' := [(6, .int (nI 0)), (4, .long sd), (0, .ref mo), (1, .long sd), (3, .int (nI k))]) hx hb dX6_simulate_43 hl (by decide) rfl (fun ls hl => ?_)
  have L45 : ∀ (fu : Nat) (i : Nat) (xs : Int64) (σ : Nat → Nat), (k - i < fu) → (i ≤ k) → (simR k sd ρ = simR (k - i) xs σ) → (Inv σ) → ∀ (H : Heap) (locs : List Loc), xW G A s.heap [[(mo, .inr (5, [.int (nI 0), .ref tx, .int (nI sz), .ref nw, .ref tr, .ref dy, .int (nI ac), .ref kp, .ref ik, .ref td, .ref ch, .int (nI sp), .int (nI ou)]))], [(nw, .inl (Y 0, 140, .inl (rowF ρ)))], [(tr, .inl (Y 0, 140, .inl (rowF σ)))]] H locs → ∀ (ls : Array Slot), lv_has ls 7 [(0, .ref mo), (1, .long sd), (3, .int (nI k)), (4, .long xs), (6, .int (nI i))] → W p l e (xRm 6 137) s m args below meth c H locs 0 0 Q (F0 m 45 ls []) := by
    intro fu
    induction fu with
    | zero => intro i xs σ hm; exact absurd hm (Nat.not_lt_zero _)
    | succ fu ih45 =>
      intro i xs σ hm hi hr hIs H locs hw ls hl
      refine lv_iload hx hb dX6_simulate_45 (lv_at hl 4 rfl) ?_
      refine lv_iload_n hx hb dX6_simulate_47 rfl (lv_at hl 2 rfl) ?_
      refine x_cge M (tgt := 79) (by omega) (by omega) dX6_simulate_48 (by decide) (fun c_6 => ?_) (fun c_6 => ?_)
      · have hE : simR k sd ρ = σ := by rw [hr, show k - i = 0 by omega]; rfl
        refine lv_sipush (v := (nI 1000)) hx hb dX6_simulate_79 (by decide) ?_
        refine lv_aload_n hx hb dX6_simulate_82 rfl (lv_at hl 0 rfl) ?_
        refine x_get M hK hw 0 0 rfl rfl ff_X6_16 rfl dX6_simulate_83 ?_
        refine lv_iconst (v := (nI 0)) hx hb dX6_simulate_86 (by decide) ?_
        refine x_iald M hK hw 2 0 rfl rfl (by decide) (by decide) dX6_simulate_87 ?_
        refine x_topN (n := σ 0) rfl ?_
        refine lv_aload_n hx hb dX6_simulate_88 rfl (lv_at hl 0 rfl) ?_
        refine x_get M hK hw 0 0 rfl rfl ff_X6_13 rfl dX6_simulate_89 ?_
        refine lv_iconst (v := (nI 0)) hx hb dX6_simulate_92 (by decide) ?_
        refine x_iald M hK hw 1 0 rfl rfl (by decide) (by decide) dX6_simulate_93 ?_
        refine x_topN (n := ρ 0) rfl ?_
        refine lv_isub hx hb dX6_simulate_94 ?_
        refine lv_imul hx hb dX6_simulate_95 ?_
        refine lv_aload_n hx hb dX6_simulate_96 rfl (lv_at hl 0 rfl) ?_
        refine x_get M hK hw 0 0 rfl rfl ff_X6_16 rfl dX6_simulate_97 ?_
        refine lv_iconst (v := (nI 0)) hx hb dX6_simulate_100 (by decide) ?_
        refine x_cSI (As := [.ref tr, .int (nI 0)]) (k_X6_asked l G Y tr 0 σ (hIs) (by omega)) cw_X6_53 [2] M hK hZ hw hl.1 rfl (by decide) ⟨by decide, by decide⟩ ⟨Nat.zero_le _, Nat.zero_le _⟩ rfl rfl (Nat.le_of_ble_eq_true rfl) dX6_simulate_101 (fun r sg h_7 H locs hw => ?_)
        obtain ⟨rfl, rfl⟩ := h_7
        have hw : xW G A s.heap [[(mo, .inr (5, [.int (nI 0), .ref tx, .int (nI sz), .ref nw, .ref tr, .ref dy, .int (nI ac), .ref kp, .ref ik, .ref td, .ref ch, .int (nI sp), .int (nI ou)]))], [(nw, .inl (Y 0, 140, .inl (rowF ρ)))], [(tr, .inl (Y 0, 140, .inl (rowF σ)))]] H locs := hw
        have q_8 : askedOf σ 0 ≤ 54 := askedOf_le hIs (by omega)
        refine lv_iadd hx hb dX6_simulate_104 ?_
        refine lv_aload_n hx hb dX6_simulate_105 rfl (lv_at hl 0 rfl) ?_
        refine x_get M hK hw 0 0 rfl rfl ff_X6_16 rfl dX6_simulate_106 ?_
        refine lv_iconst (v := (nI 1)) hx hb dX6_simulate_109 (by decide) ?_
        refine x_cSI (As := [.ref tr, .int (nI 1)]) (k_X6_asked l G Y tr 1 σ (hIs) (by omega)) cw_X6_53 [2] M hK hZ hw hl.1 rfl (by decide) ⟨by decide, by decide⟩ ⟨Nat.zero_le _, Nat.zero_le _⟩ rfl rfl (Nat.le_of_ble_eq_true rfl) dX6_simulate_110 (fun r sg h_9 H locs hw => ?_)
        obtain ⟨rfl, rfl⟩ := h_9
        have hw : xW G A s.heap [[(mo, .inr (5, [.int (nI 0), .ref tx, .int (nI sz), .ref nw, .ref tr, .ref dy, .int (nI ac), .ref kp, .ref ik, .ref td, .ref ch, .int (nI sp), .int (nI ou)]))], [(nw, .inl (Y 0, 140, .inl (rowF ρ)))], [(tr, .inl (Y 0, 140, .inl (rowF σ)))]] H locs := hw
        have q_10 : askedOf σ 1 ≤ 54 := askedOf_le hIs (by omega)
        refine lv_iadd hx hb dX6_simulate_113 ?_
        refine lv_aload_n hx hb dX6_simulate_114 rfl (lv_at hl 0 rfl) ?_
        refine x_get M hK hw 0 0 rfl rfl ff_X6_16 rfl dX6_simulate_115 ?_
        refine lv_iconst (v := (nI 2)) hx hb dX6_simulate_118 (by decide) ?_
        refine x_cSI (As := [.ref tr, .int (nI 2)]) (k_X6_asked l G Y tr 2 σ (hIs) (by omega)) cw_X6_53 [2] M hK hZ hw hl.1 rfl (by decide) ⟨by decide, by decide⟩ ⟨Nat.zero_le _, Nat.zero_le _⟩ rfl rfl (Nat.le_of_ble_eq_true rfl) dX6_simulate_119 (fun r sg h_11 H locs hw => ?_)
        obtain ⟨rfl, rfl⟩ := h_11
        have hw : xW G A s.heap [[(mo, .inr (5, [.int (nI 0), .ref tx, .int (nI sz), .ref nw, .ref tr, .ref dy, .int (nI ac), .ref kp, .ref ik, .ref td, .ref ch, .int (nI sp), .int (nI ou)]))], [(nw, .inl (Y 0, 140, .inl (rowF ρ)))], [(tr, .inl (Y 0, 140, .inl (rowF σ)))]] H locs := hw
        have q_12 : askedOf σ 2 ≤ 54 := askedOf_le hIs (by omega)
        refine lv_iadd hx hb dX6_simulate_122 ?_
        exact hret _ _ _ (((((nI 1000) * ((nI (σ 0)) - (nI (ρ 0)))) + (nI (askedOf σ 0))) + (nI (askedOf σ 1))) + (nI (askedOf σ 2))) _ _ dX6_simulate_123 hw rfl rfl ⟨by rw [hE]; unfold simV allDem; rw [← nI_add, ← nI_add, ← Int32.add_assoc, ← Int32.add_assoc], _, rfl⟩
      refine lv_lload hx hb dX6_simulate_51 (lv_at hl 3 rfl) ?_
      refine lv_ldc2 (v := 6364136223846793005) hx hb M.2.2.2.1 (M.2.2.2.2 _ mw_1298) dX6_simulate_53 ?_
      refine lv_lmul hx hb dX6_simulate_56 ?_
      refine lv_ldc2 (v := 1442695040888963407) hx hb M.2.2.2.1 (M.2.2.2.2 _ mw_1299) dX6_simulate_57 ?_
      refine lv_ladd hx hb dX6_simulate_60 ?_
      refine x_topL (y := (simX xs)) rfl ?_
      refine lv_lstore (lv' := [(4, .long (simX xs)), (0, .ref mo), (1, .long sd), (3, .int (nI k)), (6, .int (nI i))]) hx hb dX6_simulate_61 hl (by decide) rfl (fun ls hl => ?_)
      refine lv_aload_n hx hb dX6_simulate_63 rfl (lv_at hl 1 rfl) ?_
      refine lv_lload hx hb dX6_simulate_64 (lv_at hl 0 rfl) ?_
      refine lv_bipush (v := (nI 33)) hx hb dX6_simulate_66 (by decide) ?_
      refine lv_lushr (v := (((simX xs)).toUInt64 >>> (((nI 33)).toInt64.toUInt64 &&& Int64.toUInt64 63)).toInt64) hx hb dX6_simulate_68 rfl ?_
      refine lv_l2i (v := ((((simX xs)).toUInt64 >>> (((nI 33)).toInt64.toUInt64 &&& Int64.toUInt64 63)).toInt64).toInt32) hx hb dX6_simulate_69 rfl ?_
      refine x_topN (n := (simN (simX xs))) simN_i ?_
      refine x_cVV (As := [.int (nI (simN (simX xs)))]) (k_X6_turn l G Y mo 0 tx sz nw tr dy ac kp ik td ch sp ou σ (simN (simX xs)) (hIs) (simN_lt)) cw_X6_210 [0, 2] 0 0 M hK hZ hw hl.1 rfl (by decide) rfl rfl rfl ⟨by decide, by decide⟩ ⟨Nat.zero_le _, Nat.zero_le _⟩ rfl rfl (Nat.le_of_ble_eq_true rfl) dX6_simulate_70 (fun sg h_13 H locs hw => ?_)
      obtain rfl := h_13
      have hw : xW G A s.heap [[(mo, .inr (5, [.int (nI 0), .ref tx, .int (nI sz), .ref nw, .ref tr, .ref dy, .int (nI ac), .ref kp, .ref ik, .ref td, .ref ch, .int (nI sp), .int (nI ou)]))], [(nw, .inl (Y 0, 140, .inl (rowF ρ)))], [(tr, .inl (Y 0, 140, .inl (rowF (turnRow σ (simN (simX xs))))))]] H locs := hw
      refine lv_iinc (v := (nI (1 + i))) (lv' := [(6, .int (nI (1 + i))), (4, .long (simX xs)), (0, .ref mo), (1, .long sd), (3, .int (nI k))]) hx hb dX6_simulate_73 hl (k := 4) rfl (by rw [show (1 : Int) = ((1 : Nat) : Int) from rfl, nI_inc]; exact congrArg nI (by omega)) (by decide) rfl (fun ls hl => ?_)
      refine lv_goto (tgt := 45) hx hb dX6_simulate_76 (by decide) ?_
      exact ih45 (1 + i) (simX xs) (turnRow σ (simN (simX xs))) (by omega) (by omega) (by rw [hr]; exact sim_1 (by omega)) (Inv_turn hIs) _ _ hw _ (lv_sub hl [2, 3, 4, 1, 0] rfl)
  exact L45 (k - 0 + 1) 0 sd ρ (Nat.lt_succ_self _) (by omega) (rfl) (hI) _ _ hw _ (lv_sub hl [2, 3, 4, 1, 0] rfl)
set_option maxHeartbeats 4000000 in
set_option maxRecDepth 20000 in
theorem f_X6_simulate (l : Launch) (G : va_G) (Y : Nat → Nat) (mo rf tx sz nw tr dy ac kp ik td ch sp ou : Nat) (ρ : Nat → Nat) (sd : Int64) (k : Int32) (hk : inZ k.toInt 1 99 = false) : CtI l yX6_simulate cX6_simulate 7 .int 1 25 [.ref mo, .long sd, .int k] [[(mo, .inr (5, [.int (nI rf), .ref tx, .int (nI sz), .ref nw, .ref tr, .ref dy, .int (nI ac), .ref kp, .ref ik, .ref td, .ref ch, .int (nI sp), .int (nI ou)]))], [(nw, .inl (Y 0, 140, .inl (rowF ρ)))]] (fun r sg => r = nI 0 ∧ sg = [[(mo, .inr (5, [.int (nI 1), .ref tx, .int (nI sz), .ref nw, .ref tr, .ref dy, .int (nI ac), .ref kp, .ref ik, .ref td, .ref ch, .int (nI sp), .int (nI ou)]))], [(nw, .inl (Y 0, 140, .inl (rowF ρ)))]]) G Y := by
  refine x_ofI (by decide) (Nat.le_of_ble_eq_true rfl) (fun p e s m args below meth c A ls Q M hK hZ hw hl hret => ?_)
  obtain ⟨hx, hb, -⟩ := id M
  have hl : lv_has ls 7 [(0, .ref mo), (1, .long sd), (3, .int k)] := hl
  refine lv_aload_n hx hb dX6_simulate_0 rfl (lv_at hl 0 rfl) ?_
  refine lv_iload_n hx hb dX6_simulate_1 rfl (lv_at hl 2 rfl) ?_
  refine lv_i2l (v := k.toInt64) hx hb dX6_simulate_2 rfl ?_
  refine lv_lconst (v := 1) hx hb dX6_simulate_3 (by decide) ?_
  refine lv_ldc2 (v := 99) hx hb M.2.2.2.1 (M.2.2.2.2 _ mw_1085) dX6_simulate_4 ?_
  refine x_cSI (As := [.long k.toInt64, .long 1, .long 99]) (k_X6_in l G Y k.toInt64 1 99) cw_X6_45 [] M hK hZ hw hl.1 rfl (by decide) ⟨by decide, by decide⟩ ⟨Nat.zero_le _, Nat.zero_le _⟩ rfl rfl (Nat.le_of_ble_eq_true rfl) dX6_simulate_7 (fun r sg h_1 H locs hw => ?_)
  obtain ⟨rfl, rfl⟩ := h_1
  have hw : xW G A s.heap [[(mo, .inr (5, [.int (nI rf), .ref tx, .int (nI sz), .ref nw, .ref tr, .ref dy, .int (nI ac), .ref kp, .ref ik, .ref td, .ref ch, .int (nI sp), .int (nI ou)]))], [(nw, .inl (Y 0, 140, .inl (rowF ρ)))]] H locs := hw
  refine x_topI (y := b2i (inZ k.toInt 1 99)) (by rw [Int32.toInt_toInt64]; rfl) ?_
  refine x_beq M (tgt := 17) dX6_simulate_10 (by decide) (fun c_2 => ?_) (fun c_2 => absurd c_2 (fun z => by have h9 := z; rw [hk] at h9; exact absurd h9 (by decide)))
  refine lv_iconst (v := (nI 1)) hx hb dX6_simulate_17 (by decide) ?_
  refine x_cVI (As := [.int (nI 1)]) (k_X6_refused l G Y mo rf tx sz nw tr dy ac kp ik td ch sp ou 1 (by omega)) cw_X6_103 [0] 0 0 M hK hZ hw hl.1 rfl (by decide) rfl rfl rfl ⟨by decide, by decide⟩ ⟨Nat.zero_le _, Nat.zero_le _⟩ rfl rfl (Nat.le_of_ble_eq_true rfl) dX6_simulate_18 (fun r sg h_3 H locs hw => ?_)
  obtain ⟨rfl, rfl⟩ := h_3
  have hw : xW G A s.heap [[(mo, .inr (5, [.int (nI 1), .ref tx, .int (nI sz), .ref nw, .ref tr, .ref dy, .int (nI ac), .ref kp, .ref ik, .ref td, .ref ch, .int (nI sp), .int (nI ou)]))], [(nw, .inl (Y 0, 140, .inl (rowF ρ)))]] H locs := hw
  refine x_beq M (tgt := 26) dX6_simulate_21 (by decide) (fun c_4 => absurd c_4 (fun z => by first | exact absurd z (by decide) | (have := of_decide_eq_true z; omega) | (have := of_decide_eq_false z; omega))) (fun c_4 => ?_)
  refine lv_iconst (v := (nI 0)) hx hb dX6_simulate_24 (by decide) ?_
  exact hret _ _ _ (nI 0) _ _ dX6_simulate_25 hw rfl rfl ⟨rfl, rfl⟩
