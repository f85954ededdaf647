theorem ok_price_s {ρ : Nat → Nat} {k v : Int} (h : whyPrice ρ k v = 0) : started ρ = false := by
  unfold whyPrice at h
  by_cases h1 : (!inZ k 0 2) = true
  · rw [if_pos h1] at h; exact absurd h (by decide)
  rw [if_neg h1] at h
  by_cases h2 : (!inZ v 1 99999) = true
  · rw [if_pos h2] at h; exact absurd h (by decide)
  rw [if_neg h2] at h
  by_cases h3 : started ρ = true
  · rw [if_pos h3] at h; exact absurd h (by decide)
  · simpa using h3
theorem canDr_no {ρ : Nat → Nat} {b i : Int} (h : whyDrop ρ b i = 1) : canDr ρ b i = false := by
  unfold whyDrop at h
  unfold canDr
  by_cases h1 : (!inZ b 0 ((ρ 4 : Int) - 1)) = true
  · have : inZ b 0 ((ρ 4 : Int) - 1) = false := by simpa using h1
    rw [this]; rfl
  · rw [if_neg h1] at h
    by_cases h2 : (!inZ i 1 (ρ (22 + 21 * b.toNat) : Int)) = true
    · have : inZ i 1 (ρ (22 + 21 * b.toNat) : Int) = false := by simpa using h2
      rw [this, Bool.and_false]
    · rw [if_neg h2] at h; exact absurd h (by decide)
theorem isSet_no {w v : Int} (h : whySet w v = 2) : isSet w v = false := by
  unfold whySet at h
  unfold isSet
  by_cases h0 : w = 0
  · rw [if_pos h0] at h
    by_cases h1 : (!inZ v 50 100) = true
    · have : inZ v 50 100 = false := by simpa using h1
      rw [this, Bool.and_false, decide_eq_false (show ¬ w = 1 by omega)]; rfl
    · rw [if_neg h1] at h; exact absurd h (by decide)
  · rw [if_neg h0] at h
    rw [decide_eq_false h0]
    by_cases h1 : w = 1
    · rw [if_pos h1] at h
      by_cases h2 : (!inZ v 1 50) = true
      · have : inZ v 1 50 = false := by simpa using h2
        rw [this, Bool.and_false]; rfl
      · rw [if_neg h2] at h; exact absurd h (by decide)
    · rw [decide_eq_false h1]; rfl
set_option maxHeartbeats 4000000 in
set_option maxRecDepth 20000 in
theorem k_X6_offer (l : Launch) (G : va_G) (Y : Nat → Nat) (mo rf tx sz nw tr dy ac kp ik td ch sp ou : Nat) (k u v : Nat) (ρ : Nat → Nat) (φ : Nat → Nat) (dia : Nat → Nat → Nat) (hI : Inv ρ) (hac : ac ≤ 14) (hdi : diaOk ac φ dia) (g0 : k < 2 ^ 31) (g1 : u < 2 ^ 31) (g2 : v < 2 ^ 31) (ht : tOffer ρ k u v = 0) : CtI l yX6_offer cX6_offer 5 .int 2 45 [.ref mo, .int (nI k), .int (nI u), .int (nI v)] [[(mo, .inr (5, [.int (nI rf), .ref tx, .int (nI sz), .ref nw, .ref tr, .ref dy, .int (nI ac), .ref kp, .ref ik, .ref td, .ref ch, .int (nI sp), .int (nI ou)]))], [(nw, .inl (Y 0, 140, .inl (rowF ρ)))], [(dy, .inl (Y 0, 1960, .inl (rowF φ)))]] (fun r sg => r = nI (ρ (5 + k)) ∧ ∃ (φ' : Nat → Nat), diaOk (min (ac + 1) 14) φ' (diaPut ac dia ρ) ∧ sg = [[(mo, .inr (5, [.int (nI 0), .ref tx, .int (nI sz), .ref nw, .ref tr, .ref dy, .int (nI (min (ac + 1) 14)), .ref kp, .ref ik, .ref td, .ref ch, .int (nI sp), .int (nI ou)]))], [(nw, .inl (Y 0, 140, .inl (rowF (mOffer ρ k u v))))], [(dy, .inl (Y 0, 1960, .inl (rowF φ')))]]) G Y := by
  refine x_ofI (by decide) (Nat.le_of_ble_eq_true rfl) (fun p e s m args below meth c A ls Q M hK hZ hw hl hret => ?_)
  obtain ⟨hx, hb, -⟩ := id M
  have hl : lv_has ls 5 [(0, .ref mo), (1, .int (nI k)), (2, .int (nI u)), (3, .int (nI v))] := hl
  have := hI.n6
  have := hI.over
  have := hI.keep
  have := hI.stepp
  have hok := okN_offer ht
  refine lv_aload_n hx hb dX6_offer_0 rfl (lv_at hl 0 rfl) ?_
  refine lv_iload_n hx hb dX6_offer_1 rfl (lv_at hl 1 rfl) ?_
  refine x_cSI (As := [.int (nI k)]) (k_X6_isKind l G Y (nI k)) cw_X6_83 [] M hK hZ hw hl.1 rfl (by decide) ⟨by decide, by decide⟩ ⟨Nat.zero_le _, Nat.zero_le _⟩ rfl rfl (Nat.le_of_ble_eq_true rfl) dX6_offer_2 (fun r sg h_1 H locs hw => ?_)
  obtain ⟨rfl, rfl⟩ := h_1
  have hw : xW G A s.heap [[(mo, .inr (5, [.int (nI rf), .ref tx, .int (nI sz), .ref nw, .ref tr, .ref dy, .int (nI ac), .ref kp, .ref ik, .ref td, .ref ch, .int (nI sp), .int (nI ou)]))], [(nw, .inl (Y 0, 140, .inl (rowF ρ)))], [(dy, .inl (Y 0, 1960, .inl (rowF φ)))]] H locs := hw
  refine x_bne M (tgt := 12) dX6_offer_5 (by decide) (fun c_2 => ?_) (fun c_2 => absurd c_2 (fun z => pzF z (by omega) ⟨by omega, by omega⟩))
  refine lv_iload_n hx hb dX6_offer_12 rfl (lv_at hl 2 rfl) ?_
  refine lv_i2l (v := (nI u).toInt64) hx hb dX6_offer_13 rfl ?_
  refine lv_lconst (v := 1) hx hb dX6_offer_14 (by decide) ?_
  refine lv_ldc2 (v := 9) hx hb M.2.2.2.1 (M.2.2.2.2 _ mw_1086) dX6_offer_15 ?_
  refine x_cSI (As := [.long ((nI u).toInt64), .long 1, .long 9]) (k_X6_in l G Y ((nI u).toInt64) 1 9) cw_X6_45 [] M hK hZ hw hl.1 rfl (by decide) ⟨by decide, by decide⟩ ⟨Nat.zero_le _, Nat.zero_le _⟩ rfl rfl (Nat.le_of_ble_eq_true rfl) dX6_offer_18 (fun r sg h_3 H locs hw => ?_)
  obtain ⟨rfl, rfl⟩ := h_3
  have hw : xW G A s.heap [[(mo, .inr (5, [.int (nI rf), .ref tx, .int (nI sz), .ref nw, .ref tr, .ref dy, .int (nI ac), .ref kp, .ref ik, .ref td, .ref ch, .int (nI sp), .int (nI ou)]))], [(nw, .inl (Y 0, 140, .inl (rowF ρ)))], [(dy, .inl (Y 0, 1960, .inl (rowF φ)))]] H locs := hw
  refine x_topI (y := b2i (inZ (nI u).toInt 1 9)) (by rw [Int32.toInt_toInt64]; rfl) ?_
  refine x_beq M (tgt := 36) dX6_offer_21 (by decide) (fun c_4 => absurd c_4 (fun z => pzF z (by omega) ⟨by omega, by omega⟩)) (fun c_4 => ?_)
  refine lv_iload_n hx hb dX6_offer_24 rfl (lv_at hl 3 rfl) ?_
  refine lv_i2l (v := (nI v).toInt64) hx hb dX6_offer_25 rfl ?_
  refine lv_lconst (v := 1) hx hb dX6_offer_26 (by decide) ?_
  refine lv_ldc2 (v := 9) hx hb M.2.2.2.1 (M.2.2.2.2 _ mw_1086) dX6_offer_27 ?_
  refine x_cSI (As := [.long ((nI v).toInt64), .long 1, .long 9]) (k_X6_in l G Y ((nI v).toInt64) 1 9) cw_X6_45 [] M hK hZ hw hl.1 rfl (by decide) ⟨by decide, by decide⟩ ⟨Nat.zero_le _, Nat.zero_le _⟩ rfl rfl (Nat.le_of_ble_eq_true rfl) dX6_offer_30 (fun r sg h_5 H locs hw => ?_)
  obtain ⟨rfl, rfl⟩ := h_5
  have hw : xW G A s.heap [[(mo, .inr (5, [.int (nI rf), .ref tx, .int (nI sz), .ref nw, .ref tr, .ref dy, .int (nI ac), .ref kp, .ref ik, .ref td, .ref ch, .int (nI sp), .int (nI ou)]))], [(nw, .inl (Y 0, 140, .inl (rowF ρ)))], [(dy, .inl (Y 0, 1960, .inl (rowF φ)))]] H locs := hw
  refine x_topI (y := b2i (inZ (nI v).toInt 1 9)) (by rw [Int32.toInt_toInt64]; rfl) ?_
  refine x_bne M (tgt := 40) dX6_offer_33 (by decide) (fun c_6 => ?_) (fun c_6 => absurd c_6 (fun z => pzF z (by omega) ⟨by omega, by omega⟩))
  refine lv_aload_n hx hb dX6_offer_40 rfl (lv_at hl 0 rfl) ?_
  refine x_get M hK hw 0 0 rfl rfl ff_X6_13 rfl dX6_offer_41 ?_
  refine lv_iconst (v := (nI 0)) hx hb dX6_offer_44 (by decide) ?_
  refine x_iald M hK hw 1 0 rfl rfl (by decide) (by decide) dX6_offer_45 ?_
  refine x_topN (n := ρ 0) rfl ?_
  refine lv_if_gt (tgt := 58) hx hb dX6_offer_46 (by decide) (fun c_7 => absurd c_7 (fun z => by have h9 := startI_gt z; rw [hok.2.2.2.2] at h9; exact absurd h9 (by decide))) (fun c_7 => ?_)
  refine lv_aload_n hx hb dX6_offer_49 rfl (lv_at hl 0 rfl) ?_
  refine x_get M hK hw 0 0 rfl rfl ff_X6_13 rfl dX6_offer_50 ?_
  refine lv_iconst (v := (nI 4)) hx hb dX6_offer_53 (by decide) ?_
  refine x_iald M hK hw 1 0 rfl rfl (by decide) (by decide) dX6_offer_54 ?_
  refine x_topN (n := ρ 4) rfl ?_
  have q_8 : ρ 4 ≤ 6 := hI.n6
  refine x_zle M (tgt := 62) (by omega) dX6_offer_55 (by decide) (fun c_9 => ?_) (fun c_9 => absurd c_9 (by omega))
  refine lv_iconst (v := (nI 0)) hx hb dX6_offer_62 (by decide) ?_
  refine x_cVI (As := [.int (nI 0)]) (k_X6_refused l G Y mo rf tx sz nw tr dy ac kp ik td ch sp ou 0 (by omega)) cw_X6_103 [0] 0 0 M hK hZ hw hl.1 rfl (by decide) rfl rfl rfl ⟨by decide, by decide⟩ ⟨Nat.zero_le _, Nat.zero_le _⟩ rfl rfl (Nat.le_of_ble_eq_true rfl) dX6_offer_63 (fun r sg h_10 H locs hw => ?_)
  obtain ⟨rfl, rfl⟩ := h_10
  have hw : xW G A s.heap [[(mo, .inr (5, [.int (nI 0), .ref tx, .int (nI sz), .ref nw, .ref tr, .ref dy, .int (nI ac), .ref kp, .ref ik, .ref td, .ref ch, .int (nI sp), .int (nI ou)]))], [(nw, .inl (Y 0, 140, .inl (rowF ρ)))], [(dy, .inl (Y 0, 1960, .inl (rowF φ)))]] H locs := hw
  refine x_beq M (tgt := 71) dX6_offer_66 (by decide) (fun c_11 => ?_) (fun c_11 => absurd c_11 (fun z => by first | exact absurd z (by decide) | (have := of_decide_eq_true z; omega) | (have := of_decide_eq_false z; omega)))
  refine lv_aload_n hx hb dX6_offer_71 rfl (lv_at hl 0 rfl) ?_
  refine x_cVV (As := []) (k_X6_remember l G Y mo 0 tx sz nw tr dy ac kp ik td ch sp ou φ ρ dia (by omega) (hdi)) cw_X6_167 [0, 1, 2] 0 0 M hK hZ hw hl.1 rfl (by decide) rfl rfl rfl ⟨by decide, by decide⟩ ⟨Nat.zero_le _, Nat.zero_le _⟩ rfl rfl (Nat.le_of_ble_eq_true rfl) dX6_offer_72 (fun sg h_12 H locs hw => ?_)
  obtain ⟨φa13, hda14, rfl⟩ := h_12
  have hw : xW G A s.heap [[(mo, .inr (5, [.int (nI 0), .ref tx, .int (nI sz), .ref nw, .ref tr, .ref dy, .int (nI (min (ac + 1) 14)), .ref kp, .ref ik, .ref td, .ref ch, .int (nI sp), .int (nI ou)]))], [(nw, .inl (Y 0, 140, .inl (rowF ρ)))], [(dy, .inl (Y 0, 1960, .inl (rowF φa13)))]] H locs := hw
  refine lv_aload_n hx hb dX6_offer_75 rfl (lv_at hl 0 rfl) ?_
  refine x_get M hK hw 0 0 rfl rfl ff_X6_13 rfl dX6_offer_76 ?_
  refine lv_iconst (v := (nI 5)) hx hb dX6_offer_79 (by decide) ?_
  refine lv_iload_n hx hb dX6_offer_80 rfl (lv_at hl 1 rfl) ?_
  refine x_iadd M (n := 5 + k) dX6_offer_81 rfl ?_
  refine x_iald M hK hw 1 0 rfl rfl (by omega) (by decide) dX6_offer_82 ?_
  refine x_topN (n := ρ (5 + k)) rfl ?_
  have q_15 : 1 ≤ ρ (5 + k) := (hI.sup (k := k) (by omega) rfl).1
  have q_16 : ρ (5 + k) ≤ 9 := (hI.sup (k := k) (by omega) rfl).2
  refine lv_istore (lv' := [(4, .int (nI (ρ (5 + k)))), (0, .ref mo), (1, .int (nI k)), (2, .int (nI u)), (3, .int (nI v))]) hx hb dX6_offer_83 hl (by decide) rfl (fun ls hl => ?_)
  refine lv_aload_n hx hb dX6_offer_85 rfl (lv_at hl 1 rfl) ?_
  refine x_get M hK hw 0 0 rfl rfl ff_X6_13 rfl dX6_offer_86 ?_
  refine lv_iconst (v := (nI 5)) hx hb dX6_offer_89 (by decide) ?_
  refine lv_iload_n hx hb dX6_offer_90 rfl (lv_at hl 2 rfl) ?_
  refine x_iadd M (n := 5 + k) dX6_offer_91 rfl ?_
  refine lv_iload_n hx hb dX6_offer_92 rfl (lv_at hl 3 rfl) ?_
  refine x_iast M hK hw 1 0 rfl rfl (by omega) (by decide) dX6_offer_93 (fun H locs hw => ?_)
  rw [upd_row] at hw
  have hw : xW G A s.heap [[(mo, .inr (5, [.int (nI 0), .ref tx, .int (nI sz), .ref nw, .ref tr, .ref dy, .int (nI (min (ac + 1) 14)), .ref kp, .ref ik, .ref td, .ref ch, .int (nI sp), .int (nI ou)]))], [(nw, .inl (Y 0, 140, .inl (rowF (setN ρ (5 + k) u))))], [(dy, .inl (Y 0, 1960, .inl (rowF φa13)))]] H locs := hw
  refine lv_aload_n hx hb dX6_offer_94 rfl (lv_at hl 1 rfl) ?_
  refine x_get M hK hw 0 0 rfl rfl ff_X6_13 rfl dX6_offer_95 ?_
  refine lv_bipush (v := (nI 8)) hx hb dX6_offer_98 (by decide) ?_
  refine lv_iload_n hx hb dX6_offer_100 rfl (lv_at hl 2 rfl) ?_
  refine x_iadd M (n := 8 + k) dX6_offer_101 rfl ?_
  refine lv_iload_n hx hb dX6_offer_102 rfl (lv_at hl 4 rfl) ?_
  refine x_iast M hK hw 1 0 rfl rfl (by omega) (by decide) dX6_offer_103 (fun H locs hw => ?_)
  rw [upd_row] at hw
  have hw : xW G A s.heap [[(mo, .inr (5, [.int (nI 0), .ref tx, .int (nI sz), .ref nw, .ref tr, .ref dy, .int (nI (min (ac + 1) 14)), .ref kp, .ref ik, .ref td, .ref ch, .int (nI sp), .int (nI ou)]))], [(nw, .inl (Y 0, 140, .inl (rowF (setN (setN ρ (5 + k) u) (8 + k) v))))], [(dy, .inl (Y 0, 1960, .inl (rowF φa13)))]] H locs := hw
  refine lv_iload hx hb dX6_offer_104 (lv_at hl 0 rfl) ?_
  have hw := row_fold (i := 1) (f' := rowF (mOffer ρ k u v)) hw rfl (fun q hq => congrArg nI (by clear hret hw hl M hK hZ hx hb; simp only [mOffer, setN, if_true, if_false, reduceIte] <;> (repeat' split) <;> first | rfl | (exfalso; omega) | omega))
  have hw : xW G A s.heap [[(mo, .inr (5, [.int (nI 0), .ref tx, .int (nI sz), .ref nw, .ref tr, .ref dy, .int (nI (min (ac + 1) 14)), .ref kp, .ref ik, .ref td, .ref ch, .int (nI sp), .int (nI ou)]))], [(nw, .inl (Y 0, 140, .inl (rowF (mOffer ρ k u v))))], [(dy, .inl (Y 0, 1960, .inl (rowF φa13)))]] H locs := hw
  exact hret _ _ _ (nI (ρ (5 + k))) _ _ dX6_offer_106 hw rfl rfl ⟨rfl, _, hda14, rfl⟩
set_option maxHeartbeats 4000000 in
set_option maxRecDepth 20000 in
theorem k_X6_price (l : Launch) (G : va_G) (Y : Nat → Nat) (mo rf tx sz nw tr dy ac kp ik td ch sp ou : Nat) (k v : Nat) (ρ : Nat → Nat) (φ : Nat → Nat) (dia : Nat → Nat → Nat) (hI : Inv ρ) (hac : ac ≤ 14) (hdi : diaOk ac φ dia) (g0 : k < 2 ^ 31) (g1 : v < 2 ^ 31) (ht : whyPrice ρ (k : Int) (v : Int) = 0) : CtI l yX6_price cX6_price 4 .int 2 45 [.ref mo, .int (nI k), .int (nI v)] [[(mo, .inr (5, [.int (nI rf), .ref tx, .int (nI sz), .ref nw, .ref tr, .ref dy, .int (nI ac), .ref kp, .ref ik, .ref td, .ref ch, .int (nI sp), .int (nI ou)]))], [(nw, .inl (Y 0, 140, .inl (rowF ρ)))], [(dy, .inl (Y 0, 1960, .inl (rowF φ)))]] (fun r sg => r = nI (ρ (11 + k)) ∧ ∃ (φ' : Nat → Nat), diaOk (min (ac + 1) 14) φ' (diaPut ac dia ρ) ∧ sg = [[(mo, .inr (5, [.int (nI 0), .ref tx, .int (nI sz), .ref nw, .ref tr, .ref dy, .int (nI (min (ac + 1) 14)), .ref kp, .ref ik, .ref td, .ref ch, .int (nI sp), .int (nI ou)]))], [(nw, .inl (Y 0, 140, .inl (rowF (mPri ρ k v))))], [(dy, .inl (Y 0, 1960, .inl (rowF φ')))]]) G Y := by
  refine x_ofI (by decide) (Nat.le_of_ble_eq_true rfl) (fun p e s m args below meth c A ls Q M hK hZ hw hl hret => ?_)
  obtain ⟨hx, hb, -⟩ := id M
  have hl : lv_has ls 4 [(0, .ref mo), (1, .int (nI k)), (2, .int (nI v))] := hl
  have := hI.n6
  have := hI.over
  have := hI.keep
  have := hI.stepp
  have hok := ok_price ht
  refine lv_aload_n hx hb dX6_price_0 rfl (lv_at hl 0 rfl) ?_
  refine lv_iload_n hx hb dX6_price_1 rfl (lv_at hl 1 rfl) ?_
  refine x_cSI (As := [.int (nI k)]) (k_X6_isKind l G Y (nI k)) cw_X6_83 [] M hK hZ hw hl.1 rfl (by decide) ⟨by decide, by decide⟩ ⟨Nat.zero_le _, Nat.zero_le _⟩ rfl rfl (Nat.le_of_ble_eq_true rfl) dX6_price_2 (fun r sg h_1 H locs hw => ?_)
  obtain ⟨rfl, rfl⟩ := h_1
  have hw : xW G A s.heap [[(mo, .inr (5, [.int (nI rf), .ref tx, .int (nI sz), .ref nw, .ref tr, .ref dy, .int (nI ac), .ref kp, .ref ik, .ref td, .ref ch, .int (nI sp), .int (nI ou)]))], [(nw, .inl (Y 0, 140, .inl (rowF ρ)))], [(dy, .inl (Y 0, 1960, .inl (rowF φ)))]] H locs := hw
  refine x_bne M (tgt := 12) dX6_price_5 (by decide) (fun c_2 => ?_) (fun c_2 => absurd c_2 (fun z => pzF z (by omega) ⟨by omega, by omega⟩))
  refine lv_iload_n hx hb dX6_price_12 rfl (lv_at hl 2 rfl) ?_
  refine lv_i2l (v := (nI v).toInt64) hx hb dX6_price_13 rfl ?_
  refine lv_lconst (v := 1) hx hb dX6_price_14 (by decide) ?_
  refine lv_ldc2 (v := 99999) hx hb M.2.2.2.1 (M.2.2.2.2 _ mw_1103) dX6_price_15 ?_
  refine x_cSI (As := [.long ((nI v).toInt64), .long 1, .long 99999]) (k_X6_in l G Y ((nI v).toInt64) 1 99999) cw_X6_45 [] M hK hZ hw hl.1 rfl (by decide) ⟨by decide, by decide⟩ ⟨Nat.zero_le _, Nat.zero_le _⟩ rfl rfl (Nat.le_of_ble_eq_true rfl) dX6_price_18 (fun r sg h_3 H locs hw => ?_)
  obtain ⟨rfl, rfl⟩ := h_3
  have hw : xW G A s.heap [[(mo, .inr (5, [.int (nI rf), .ref tx, .int (nI sz), .ref nw, .ref tr, .ref dy, .int (nI ac), .ref kp, .ref ik, .ref td, .ref ch, .int (nI sp), .int (nI ou)]))], [(nw, .inl (Y 0, 140, .inl (rowF ρ)))], [(dy, .inl (Y 0, 1960, .inl (rowF φ)))]] H locs := hw
  refine x_topI (y := b2i (inZ (nI v).toInt 1 99999)) (by rw [Int32.toInt_toInt64]; rfl) ?_
  refine x_bne M (tgt := 28) dX6_price_21 (by decide) (fun c_4 => ?_) (fun c_4 => absurd c_4 (fun z => pzF z (by omega) ⟨by omega, by omega⟩))
  refine lv_aload_n hx hb dX6_price_28 rfl (lv_at hl 0 rfl) ?_
  refine x_get M hK hw 0 0 rfl rfl ff_X6_13 rfl dX6_price_29 ?_
  refine lv_iconst (v := (nI 0)) hx hb dX6_price_32 (by decide) ?_
  refine x_iald M hK hw 1 0 rfl rfl (by decide) (by decide) dX6_price_33 ?_
  refine x_topN (n := ρ 0) rfl ?_
  refine lv_if_le (tgt := 41) hx hb dX6_price_34 (by decide) (fun c_5 => ?_) (fun c_5 => absurd c_5 (fun z => by have h9 := startN_le z; rw [ok_price_s ht] at h9; exact absurd h9 (by decide)))
  refine lv_iconst (v := (nI 0)) hx hb dX6_price_41 (by decide) ?_
  refine x_cVI (As := [.int (nI 0)]) (k_X6_refused l G Y mo rf tx sz nw tr dy ac kp ik td ch sp ou 0 (by omega)) cw_X6_103 [0] 0 0 M hK hZ hw hl.1 rfl (by decide) rfl rfl rfl ⟨by decide, by decide⟩ ⟨Nat.zero_le _, Nat.zero_le _⟩ rfl rfl (Nat.le_of_ble_eq_true rfl) dX6_price_42 (fun r sg h_6 H locs hw => ?_)
  obtain ⟨rfl, rfl⟩ := h_6
  have hw : xW G A s.heap [[(mo, .inr (5, [.int (nI 0), .ref tx, .int (nI sz), .ref nw, .ref tr, .ref dy, .int (nI ac), .ref kp, .ref ik, .ref td, .ref ch, .int (nI sp), .int (nI ou)]))], [(nw, .inl (Y 0, 140, .inl (rowF ρ)))], [(dy, .inl (Y 0, 1960, .inl (rowF φ)))]] H locs := hw
  refine x_beq M (tgt := 50) dX6_price_45 (by decide) (fun c_7 => ?_) (fun c_7 => absurd c_7 (fun z => by first | exact absurd z (by decide) | (have := of_decide_eq_true z; omega) | (have := of_decide_eq_false z; omega)))
  refine lv_aload_n hx hb dX6_price_50 rfl (lv_at hl 0 rfl) ?_
  refine x_cVV (As := []) (k_X6_remember l G Y mo 0 tx sz nw tr dy ac kp ik td ch sp ou φ ρ dia (by omega) (hdi)) cw_X6_167 [0, 1, 2] 0 0 M hK hZ hw hl.1 rfl (by decide) rfl rfl rfl ⟨by decide, by decide⟩ ⟨Nat.zero_le _, Nat.zero_le _⟩ rfl rfl (Nat.le_of_ble_eq_true rfl) dX6_price_51 (fun sg h_8 H locs hw => ?_)
  obtain ⟨φa9, hda10, rfl⟩ := h_8
  have hw : xW G A s.heap [[(mo, .inr (5, [.int (nI 0), .ref tx, .int (nI sz), .ref nw, .ref tr, .ref dy, .int (nI (min (ac + 1) 14)), .ref kp, .ref ik, .ref td, .ref ch, .int (nI sp), .int (nI ou)]))], [(nw, .inl (Y 0, 140, .inl (rowF ρ)))], [(dy, .inl (Y 0, 1960, .inl (rowF φa9)))]] H locs := hw
  refine lv_aload_n hx hb dX6_price_54 rfl (lv_at hl 0 rfl) ?_
  refine x_get M hK hw 0 0 rfl rfl ff_X6_13 rfl dX6_price_55 ?_
  refine lv_bipush (v := (nI 11)) hx hb dX6_price_58 (by decide) ?_
  refine lv_iload_n hx hb dX6_price_60 rfl (lv_at hl 1 rfl) ?_
  refine x_iadd M (n := 11 + k) dX6_price_61 rfl ?_
  refine x_iald M hK hw 1 0 rfl rfl (by omega) (by decide) dX6_price_62 ?_
  refine x_topN (n := ρ (11 + k)) rfl ?_
  have q_11 : 1 ≤ ρ (11 + k) := (hI.pri (k := k) (by omega) rfl).1
  have q_12 : ρ (11 + k) ≤ 99999 := (hI.pri (k := k) (by omega) rfl).2
  refine lv_istore_n (lv' := [(3, .int (nI (ρ (11 + k)))), (0, .ref mo), (1, .int (nI k)), (2, .int (nI v))]) hx hb dX6_price_63 rfl hl (by decide) rfl (fun ls hl => ?_)
  refine lv_aload_n hx hb dX6_price_64 rfl (lv_at hl 1 rfl) ?_
  refine x_get M hK hw 0 0 rfl rfl ff_X6_13 rfl dX6_price_65 ?_
  refine lv_bipush (v := (nI 11)) hx hb dX6_price_68 (by decide) ?_
  refine lv_iload_n hx hb dX6_price_70 rfl (lv_at hl 2 rfl) ?_
  refine x_iadd M (n := 11 + k) dX6_price_71 rfl ?_
  refine lv_iload_n hx hb dX6_price_72 rfl (lv_at hl 3 rfl) ?_
  refine x_iast M hK hw 1 0 rfl rfl (by omega) (by decide) dX6_price_73 (fun H locs hw => ?_)
  rw [upd_row] at hw
  have hw : xW G A s.heap [[(mo, .inr (5, [.int (nI 0), .ref tx, .int (nI sz), .ref nw, .ref tr, .ref dy, .int (nI (min (ac + 1) 14)), .ref kp, .ref ik, .ref td, .ref ch, .int (nI sp), .int (nI ou)]))], [(nw, .inl (Y 0, 140, .inl (rowF (setN ρ (11 + k) v))))], [(dy, .inl (Y 0, 1960, .inl (rowF φa9)))]] H locs := hw
  refine lv_iload_n hx hb dX6_price_74 rfl (lv_at hl 0 rfl) ?_
  have hw := row_fold (i := 1) (f' := rowF (mPri ρ k v)) hw rfl (fun q hq => congrArg nI (by clear hret hw hl M hK hZ hx hb; simp only [mPri, setN, if_true, if_false, reduceIte] <;> (repeat' split) <;> first | rfl | (exfalso; omega) | omega))
  have hw : xW G A s.heap [[(mo, .inr (5, [.int (nI 0), .ref tx, .int (nI sz), .ref nw, .ref tr, .ref dy, .int (nI (min (ac + 1) 14)), .ref kp, .ref ik, .ref td, .ref ch, .int (nI sp), .int (nI ou)]))], [(nw, .inl (Y 0, 140, .inl (rowF (mPri ρ k v))))], [(dy, .inl (Y 0, 1960, .inl (rowF φa9)))]] H locs := hw
  exact hret _ _ _ (nI (ρ (11 + k))) _ _ dX6_price_75 hw rfl rfl ⟨rfl, _, hda10, rfl⟩
set_option maxHeartbeats 4000000 in
set_option maxRecDepth 20000 in
theorem k_X6_join (l : Launch) (G : va_G) (Y : Nat → Nat) (mo rf tx sz nw tr dy ac kp ik td ch sp ou : Nat) (u v : Nat) (ρ : Nat → Nat) (φ : Nat → Nat) (dia : Nat → Nat → Nat) (hI : Inv ρ) (hac : ac ≤ 14) (hdi : diaOk ac φ dia) (g0 : u < 2 ^ 31) (g1 : v < 2 ^ 31) (ht : tJoin ρ u v = 0) : CtI l yX6_join cX6_join 3 .int 2 47 [.ref mo, .int (nI u), .int (nI v)] [[(mo, .inr (5, [.int (nI rf), .ref tx, .int (nI sz), .ref nw, .ref tr, .ref dy, .int (nI ac), .ref kp, .ref ik, .ref td, .ref ch, .int (nI sp), .int (nI ou)]))], [(nw, .inl (Y 0, 140, .inl (rowF ρ)))], [(dy, .inl (Y 0, 1960, .inl (rowF φ)))]] (fun r sg => r = nI (ρ 4) ∧ ∃ (φ' : Nat → Nat), diaOk (min (ac + 1) 14) φ' (diaPut ac dia ρ) ∧ sg = [[(mo, .inr (5, [.int (nI 0), .ref tx, .int (nI sz), .ref nw, .ref tr, .ref dy, .int (nI (min (ac + 1) 14)), .ref kp, .ref ik, .ref td, .ref ch, .int (nI sp), .int (nI ou)]))], [(nw, .inl (Y 0, 140, .inl (rowF (mJoin ρ u v))))], [(dy, .inl (Y 0, 1960, .inl (rowF φ')))]]) G Y := by
  refine x_ofI (by decide) (Nat.le_of_ble_eq_true rfl) (fun p e s m args below meth c A ls Q M hK hZ hw hl hret => ?_)
  obtain ⟨hx, hb, -⟩ := id M
  have hl : lv_has ls 3 [(0, .ref mo), (1, .int (nI u)), (2, .int (nI v))] := hl
  have := hI.n6
  have := hI.over
  have := hI.keep
  have := hI.stepp
  have hok := okN_join ht
  refine lv_aload_n hx hb dX6_join_0 rfl (lv_at hl 0 rfl) ?_
  refine lv_aload_n hx hb dX6_join_1 rfl (lv_at hl 0 rfl) ?_
  refine x_get M hK hw 0 0 rfl rfl ff_X6_13 rfl dX6_join_2 ?_
  refine lv_iload_n hx hb dX6_join_5 rfl (lv_at hl 1 rfl) ?_
  refine lv_iload_n hx hb dX6_join_6 rfl (lv_at hl 2 rfl) ?_
  refine x_cSI (As := [.ref nw, .int (nI u), .int (nI v)]) (k_X6_whyNotJoin l G Y nw ρ (nI u) (nI v) (hI)) cw_X6_112 [1] M hK hZ hw hl.1 rfl (by decide) ⟨by decide, by decide⟩ ⟨Nat.zero_le _, Nat.zero_le _⟩ rfl rfl (Nat.le_of_ble_eq_true rfl) dX6_join_7 (fun r sg h_1 H locs hw => ?_)
  obtain ⟨rfl, rfl⟩ := h_1
  have hw : xW G A s.heap [[(mo, .inr (5, [.int (nI rf), .ref tx, .int (nI sz), .ref nw, .ref tr, .ref dy, .int (nI ac), .ref kp, .ref ik, .ref td, .ref ch, .int (nI sp), .int (nI ou)]))], [(nw, .inl (Y 0, 140, .inl (rowF ρ)))], [(dy, .inl (Y 0, 1960, .inl (rowF φ)))]] H locs := hw
  refine x_topN (n := (whyJoin ρ (nI u).toInt (nI v).toInt - 1)) (congrArg nI (by omega)) ?_
  refine x_topN (n := 0) (congrArg nI (by have h9 := ht; unfold tJoin at h9; rw [nI_toInt g0, nI_toInt g1, h9])) ?_
  refine x_cVI (As := [.int (nI 0)]) (k_X6_refused l G Y mo rf tx sz nw tr dy ac kp ik td ch sp ou 0 (by omega)) cw_X6_103 [0] 0 0 M hK hZ hw hl.1 rfl (by decide) rfl rfl rfl ⟨by decide, by decide⟩ ⟨Nat.zero_le _, Nat.zero_le _⟩ rfl rfl (Nat.le_of_ble_eq_true rfl) dX6_join_10 (fun r sg h_2 H locs hw => ?_)
  obtain ⟨rfl, rfl⟩ := h_2
  have hw : xW G A s.heap [[(mo, .inr (5, [.int (nI 0), .ref tx, .int (nI sz), .ref nw, .ref tr, .ref dy, .int (nI ac), .ref kp, .ref ik, .ref td, .ref ch, .int (nI sp), .int (nI ou)]))], [(nw, .inl (Y 0, 140, .inl (rowF ρ)))], [(dy, .inl (Y 0, 1960, .inl (rowF φ)))]] H locs := hw
  refine x_beq M (tgt := 18) dX6_join_13 (by decide) (fun c_3 => ?_) (fun c_3 => absurd c_3 (fun z => by first | exact absurd z (by decide) | (have := of_decide_eq_true z; omega) | (have := of_decide_eq_false z; omega)))
  refine lv_aload_n hx hb dX6_join_18 rfl (lv_at hl 0 rfl) ?_
  refine x_cVV (As := []) (k_X6_remember l G Y mo 0 tx sz nw tr dy ac kp ik td ch sp ou φ ρ dia (by omega) (hdi)) cw_X6_167 [0, 1, 2] 0 0 M hK hZ hw hl.1 rfl (by decide) rfl rfl rfl ⟨by decide, by decide⟩ ⟨Nat.zero_le _, Nat.zero_le _⟩ rfl rfl (Nat.le_of_ble_eq_true rfl) dX6_join_19 (fun sg h_4 H locs hw => ?_)
  obtain ⟨φa5, hda6, rfl⟩ := h_4
  have hw : xW G A s.heap [[(mo, .inr (5, [.int (nI 0), .ref tx, .int (nI sz), .ref nw, .ref tr, .ref dy, .int (nI (min (ac + 1) 14)), .ref kp, .ref ik, .ref td, .ref ch, .int (nI sp), .int (nI ou)]))], [(nw, .inl (Y 0, 140, .inl (rowF ρ)))], [(dy, .inl (Y 0, 1960, .inl (rowF φa5)))]] H locs := hw
  refine lv_aload_n hx hb dX6_join_22 rfl (lv_at hl 0 rfl) ?_
  refine x_get M hK hw 0 0 rfl rfl ff_X6_13 rfl dX6_join_23 ?_
  refine lv_iload_n hx hb dX6_join_26 rfl (lv_at hl 1 rfl) ?_
  refine lv_iload_n hx hb dX6_join_27 rfl (lv_at hl 2 rfl) ?_
  refine x_cSI (As := [.ref nw, .int (nI u), .int (nI v)]) (k_X6_joinOn l G Y nw u v ρ (hI) (by omega)) cw_X6_116 [1] M hK hZ hw hl.1 rfl (by decide) ⟨by decide, by decide⟩ ⟨Nat.zero_le _, Nat.zero_le _⟩ rfl rfl (Nat.le_of_ble_eq_true rfl) dX6_join_28 (fun r sg h_7 H locs hw => ?_)
  obtain ⟨rfl, rfl⟩ := h_7
  have hw : xW G A s.heap [[(mo, .inr (5, [.int (nI 0), .ref tx, .int (nI sz), .ref nw, .ref tr, .ref dy, .int (nI (min (ac + 1) 14)), .ref kp, .ref ik, .ref td, .ref ch, .int (nI sp), .int (nI ou)]))], [(nw, .inl (Y 0, 140, .inl (rowF (mJoin ρ u v))))], [(dy, .inl (Y 0, 1960, .inl (rowF φa5)))]] H locs := hw
  exact hret _ _ _ (nI (ρ 4)) _ _ dX6_join_31 hw rfl rfl ⟨rfl, _, hda6, rfl⟩
set_option maxHeartbeats 4000000 in
set_option maxRecDepth 20000 in
theorem k_X6_value (l : Launch) (G : va_G) (Y : Nat → Nat) (mo rf tx sz nw tr dy ac kp ik td ch sp ou : Nat) (b k v : Nat) (ρ : Nat → Nat) (φ : Nat → Nat) (dia : Nat → Nat → Nat) (hI : Inv ρ) (hac : ac ≤ 14) (hdi : diaOk ac φ dia) (g0 : b < 2 ^ 31) (g1 : k < 2 ^ 31) (g2 : v < 2 ^ 31) (ht : tVal ρ b k v = 0) : CtI l yX6_value cX6_value 4 .int 3 69 [.ref mo, .int (nI b), .int (nI k), .int (nI v)] [[(mo, .inr (5, [.int (nI rf), .ref tx, .int (nI sz), .ref nw, .ref tr, .ref dy, .int (nI ac), .ref kp, .ref ik, .ref td, .ref ch, .int (nI sp), .int (nI ou)]))], [(nw, .inl (Y 0, 140, .inl (rowF ρ)))], [(dy, .inl (Y 0, 1960, .inl (rowF φ)))]] (fun r sg => r = nI (ρ (16 + 21 * b + k)) ∧ ∃ (φ' : Nat → Nat), diaOk (min (ac + 1) 14) φ' (diaPut ac dia ρ) ∧ sg = [[(mo, .inr (5, [.int (nI 0), .ref tx, .int (nI sz), .ref nw, .ref tr, .ref dy, .int (nI (min (ac + 1) 14)), .ref kp, .ref ik, .ref td, .ref ch, .int (nI sp), .int (nI ou)]))], [(nw, .inl (Y 0, 140, .inl (rowF (mVal ρ b k v))))], [(dy, .inl (Y 0, 1960, .inl (rowF φ')))]]) G Y := by
  refine x_ofI (by decide) (Nat.le_of_ble_eq_true rfl) (fun p e s m args below meth c A ls Q M hK hZ hw hl hret => ?_)
  obtain ⟨hx, hb, -⟩ := id M
  have hl : lv_has ls 4 [(0, .ref mo), (1, .int (nI b)), (2, .int (nI k)), (3, .int (nI v))] := hl
  have := hI.n6
  have := hI.over
  have := hI.keep
  have := hI.stepp
  have hok := okN_value ht
  refine lv_aload_n hx hb dX6_value_0 rfl (lv_at hl 0 rfl) ?_
  refine lv_aload_n hx hb dX6_value_1 rfl (lv_at hl 0 rfl) ?_
  refine x_get M hK hw 0 0 rfl rfl ff_X6_13 rfl dX6_value_2 ?_
  refine lv_iload_n hx hb dX6_value_5 rfl (lv_at hl 1 rfl) ?_
  refine lv_iload_n hx hb dX6_value_6 rfl (lv_at hl 2 rfl) ?_
  refine lv_iload_n hx hb dX6_value_7 rfl (lv_at hl 3 rfl) ?_
  refine x_cSI (As := [.ref nw, .int (nI b), .int (nI k), .int (nI v)]) (k_X6_whyNotValue l G Y nw ρ (nI b) (nI k) (nI v) (hI)) cw_X6_119 [1] M hK hZ hw hl.1 rfl (by decide) ⟨by decide, by decide⟩ ⟨Nat.zero_le _, Nat.zero_le _⟩ rfl rfl (Nat.le_of_ble_eq_true rfl) dX6_value_8 (fun r sg h_1 H locs hw => ?_)
  obtain ⟨rfl, rfl⟩ := h_1
  have hw : xW G A s.heap [[(mo, .inr (5, [.int (nI rf), .ref tx, .int (nI sz), .ref nw, .ref tr, .ref dy, .int (nI ac), .ref kp, .ref ik, .ref td, .ref ch, .int (nI sp), .int (nI ou)]))], [(nw, .inl (Y 0, 140, .inl (rowF ρ)))], [(dy, .inl (Y 0, 1960, .inl (rowF φ)))]] H locs := hw
  refine x_topN (n := 0) (congrArg nI (by have h9 := ht; unfold tVal at h9; rw [nI_toInt g0, nI_toInt g1, nI_toInt g2, h9])) ?_
  refine x_cVI (As := [.int (nI 0)]) (k_X6_refused l G Y mo rf tx sz nw tr dy ac kp ik td ch sp ou 0 (by omega)) cw_X6_103 [0] 0 0 M hK hZ hw hl.1 rfl (by decide) rfl rfl rfl ⟨by decide, by decide⟩ ⟨Nat.zero_le _, Nat.zero_le _⟩ rfl rfl (Nat.le_of_ble_eq_true rfl) dX6_value_11 (fun r sg h_2 H locs hw => ?_)
  obtain ⟨rfl, rfl⟩ := h_2
  have hw : xW G A s.heap [[(mo, .inr (5, [.int (nI 0), .ref tx, .int (nI sz), .ref nw, .ref tr, .ref dy, .int (nI ac), .ref kp, .ref ik, .ref td, .ref ch, .int (nI sp), .int (nI ou)]))], [(nw, .inl (Y 0, 140, .inl (rowF ρ)))], [(dy, .inl (Y 0, 1960, .inl (rowF φ)))]] H locs := hw
  refine x_beq M (tgt := 19) dX6_value_14 (by decide) (fun c_3 => ?_) (fun c_3 => absurd c_3 (fun z => by first | exact absurd z (by decide) | (have := of_decide_eq_true z; omega) | (have := of_decide_eq_false z; omega)))
  refine lv_aload_n hx hb dX6_value_19 rfl (lv_at hl 0 rfl) ?_
  refine x_cVV (As := []) (k_X6_remember l G Y mo 0 tx sz nw tr dy ac kp ik td ch sp ou φ ρ dia (by omega) (hdi)) cw_X6_167 [0, 1, 2] 0 0 M hK hZ hw hl.1 rfl (by decide) rfl rfl rfl ⟨by decide, by decide⟩ ⟨Nat.zero_le _, Nat.zero_le _⟩ rfl rfl (Nat.le_of_ble_eq_true rfl) dX6_value_20 (fun sg h_4 H locs hw => ?_)
  obtain ⟨φa5, hda6, rfl⟩ := h_4
  have hw : xW G A s.heap [[(mo, .inr (5, [.int (nI 0), .ref tx, .int (nI sz), .ref nw, .ref tr, .ref dy, .int (nI (min (ac + 1) 14)), .ref kp, .ref ik, .ref td, .ref ch, .int (nI sp), .int (nI ou)]))], [(nw, .inl (Y 0, 140, .inl (rowF ρ)))], [(dy, .inl (Y 0, 1960, .inl (rowF φa5)))]] H locs := hw
  refine lv_aload_n hx hb dX6_value_23 rfl (lv_at hl 0 rfl) ?_
  refine x_get M hK hw 0 0 rfl rfl ff_X6_13 rfl dX6_value_24 ?_
  refine lv_iload_n hx hb dX6_value_27 rfl (lv_at hl 1 rfl) ?_
  refine lv_iload_n hx hb dX6_value_28 rfl (lv_at hl 2 rfl) ?_
  refine lv_iload_n hx hb dX6_value_29 rfl (lv_at hl 3 rfl) ?_
  refine x_cSI (As := [.ref nw, .int (nI b), .int (nI k), .int (nI v)]) (k_X6_valueOn l G Y nw b k v ρ (hI) (by omega) (by omega)) cw_X6_122 [1] M hK hZ hw hl.1 rfl (by decide) ⟨by decide, by decide⟩ ⟨Nat.zero_le _, Nat.zero_le _⟩ rfl rfl (Nat.le_of_ble_eq_true rfl) dX6_value_30 (fun r sg h_7 H locs hw => ?_)
  obtain ⟨rfl, rfl⟩ := h_7
  have hw : xW G A s.heap [[(mo, .inr (5, [.int (nI 0), .ref tx, .int (nI sz), .ref nw, .ref tr, .ref dy, .int (nI (min (ac + 1) 14)), .ref kp, .ref ik, .ref td, .ref ch, .int (nI sp), .int (nI ou)]))], [(nw, .inl (Y 0, 140, .inl (rowF (mVal ρ b k v))))], [(dy, .inl (Y 0, 1960, .inl (rowF φa5)))]] H locs := hw
  have q_8 : ρ (16 + 21 * b + k) ≤ 99999 := hI.val (by omega) (by omega) rfl
  exact hret _ _ _ (nI (ρ (16 + 21 * b + k))) _ _ dX6_value_33 hw rfl rfl ⟨rfl, _, hda6, rfl⟩
set_option maxHeartbeats 4000000 in
set_option maxRecDepth 20000 in
theorem k_X6_ask (l : Launch) (G : va_G) (Y : Nat → Nat) (mo rf tx sz nw tr dy ac kp ik td ch sp ou : Nat) (b k n : Nat) (ρ : Nat → Nat) (φ : Nat → Nat) (dia : Nat → Nat → Nat) (hI : Inv ρ) (hac : ac ≤ 14) (hdi : diaOk ac φ dia) (g0 : b < 2 ^ 31) (g1 : k < 2 ^ 31) (g2 : n < 2 ^ 31) (ht : tAsk ρ b k n = 0) : CtI l yX6_ask cX6_ask 4 .int 3 70 [.ref mo, .int (nI b), .int (nI k), .int (nI n)] [[(mo, .inr (5, [.int (nI rf), .ref tx, .int (nI sz), .ref nw, .ref tr, .ref dy, .int (nI ac), .ref kp, .ref ik, .ref td, .ref ch, .int (nI sp), .int (nI ou)]))], [(nw, .inl (Y 0, 140, .inl (rowF ρ)))], [(dy, .inl (Y 0, 1960, .inl (rowF φ)))]] (fun r sg => r = nI (act (mAsk ρ b k n) b) ∧ ∃ (φ' : Nat → Nat), diaOk (min (ac + 1) 14) φ' (diaPut ac dia ρ) ∧ sg = [[(mo, .inr (5, [.int (nI 0), .ref tx, .int (nI sz), .ref nw, .ref tr, .ref dy, .int (nI (min (ac + 1) 14)), .ref kp, .ref ik, .ref td, .ref ch, .int (nI sp), .int (nI ou)]))], [(nw, .inl (Y 0, 140, .inl (rowF (mAsk ρ b k n))))], [(dy, .inl (Y 0, 1960, .inl (rowF φ')))]]) G Y := by
  refine x_ofI (by decide) (Nat.le_of_ble_eq_true rfl) (fun p e s m args below meth c A ls Q M hK hZ hw hl hret => ?_)
  obtain ⟨hx, hb, -⟩ := id M
  have hl : lv_has ls 4 [(0, .ref mo), (1, .int (nI b)), (2, .int (nI k)), (3, .int (nI n))] := hl
  have := hI.n6
  have := hI.over
  have := hI.keep
  have := hI.stepp
  have hok := okN_ask ht
  refine lv_aload_n hx hb dX6_ask_0 rfl (lv_at hl 0 rfl) ?_
  refine lv_aload_n hx hb dX6_ask_1 rfl (lv_at hl 0 rfl) ?_
  refine x_get M hK hw 0 0 rfl rfl ff_X6_13 rfl dX6_ask_2 ?_
  refine lv_iload_n hx hb dX6_ask_5 rfl (lv_at hl 1 rfl) ?_
  refine lv_iload_n hx hb dX6_ask_6 rfl (lv_at hl 2 rfl) ?_
  refine lv_iload_n hx hb dX6_ask_7 rfl (lv_at hl 3 rfl) ?_
  refine x_cSI (As := [.ref nw, .int (nI b), .int (nI k), .int (nI n)]) (k_X6_whyNotAsk l G Y nw ρ (nI b) (nI k) (nI n) (hI)) cw_X6_125 [1] M hK hZ hw hl.1 rfl (by decide) ⟨by decide, by decide⟩ ⟨Nat.zero_le _, Nat.zero_le _⟩ rfl rfl (Nat.le_of_ble_eq_true rfl) dX6_ask_8 (fun r sg h_1 H locs hw => ?_)
  obtain ⟨rfl, rfl⟩ := h_1
  have hw : xW G A s.heap [[(mo, .inr (5, [.int (nI rf), .ref tx, .int (nI sz), .ref nw, .ref tr, .ref dy, .int (nI ac), .ref kp, .ref ik, .ref td, .ref ch, .int (nI sp), .int (nI ou)]))], [(nw, .inl (Y 0, 140, .inl (rowF ρ)))], [(dy, .inl (Y 0, 1960, .inl (rowF φ)))]] H locs := hw
  refine x_topN (n := 0) (congrArg nI (by have h9 := ht; unfold tAsk at h9; rw [nI_toInt g0, nI_toInt g1, nI_toInt g2, h9])) ?_
  refine x_cVI (As := [.int (nI 0)]) (k_X6_refused l G Y mo rf tx sz nw tr dy ac kp ik td ch sp ou 0 (by omega)) cw_X6_103 [0] 0 0 M hK hZ hw hl.1 rfl (by decide) rfl rfl rfl ⟨by decide, by decide⟩ ⟨Nat.zero_le _, Nat.zero_le _⟩ rfl rfl (Nat.le_of_ble_eq_true rfl) dX6_ask_11 (fun r sg h_2 H locs hw => ?_)
  obtain ⟨rfl, rfl⟩ := h_2
  have hw : xW G A s.heap [[(mo, .inr (5, [.int (nI 0), .ref tx, .int (nI sz), .ref nw, .ref tr, .ref dy, .int (nI ac), .ref kp, .ref ik, .ref td, .ref ch, .int (nI sp), .int (nI ou)]))], [(nw, .inl (Y 0, 140, .inl (rowF ρ)))], [(dy, .inl (Y 0, 1960, .inl (rowF φ)))]] H locs := hw
  refine x_beq M (tgt := 19) dX6_ask_14 (by decide) (fun c_3 => ?_) (fun c_3 => absurd c_3 (fun z => by first | exact absurd z (by decide) | (have := of_decide_eq_true z; omega) | (have := of_decide_eq_false z; omega)))
  refine lv_aload_n hx hb dX6_ask_19 rfl (lv_at hl 0 rfl) ?_
  refine x_cVV (As := []) (k_X6_remember l G Y mo 0 tx sz nw tr dy ac kp ik td ch sp ou φ ρ dia (by omega) (hdi)) cw_X6_167 [0, 1, 2] 0 0 M hK hZ hw hl.1 rfl (by decide) rfl rfl rfl ⟨by decide, by decide⟩ ⟨Nat.zero_le _, Nat.zero_le _⟩ rfl rfl (Nat.le_of_ble_eq_true rfl) dX6_ask_20 (fun sg h_4 H locs hw => ?_)
  obtain ⟨φa5, hda6, rfl⟩ := h_4
  have hw : xW G A s.heap [[(mo, .inr (5, [.int (nI 0), .ref tx, .int (nI sz), .ref nw, .ref tr, .ref dy, .int (nI (min (ac + 1) 14)), .ref kp, .ref ik, .ref td, .ref ch, .int (nI sp), .int (nI ou)]))], [(nw, .inl (Y 0, 140, .inl (rowF ρ)))], [(dy, .inl (Y 0, 1960, .inl (rowF φa5)))]] H locs := hw
  refine lv_aload_n hx hb dX6_ask_23 rfl (lv_at hl 0 rfl) ?_
  refine x_get M hK hw 0 0 rfl rfl ff_X6_13 rfl dX6_ask_24 ?_
  refine lv_iload_n hx hb dX6_ask_27 rfl (lv_at hl 1 rfl) ?_
  refine lv_iload_n hx hb dX6_ask_28 rfl (lv_at hl 2 rfl) ?_
  refine lv_iload_n hx hb dX6_ask_29 rfl (lv_at hl 3 rfl) ?_
  refine x_cSI (As := [.ref nw, .int (nI b), .int (nI k), .int (nI n)]) (k_X6_askOn l G Y nw b k n ρ (hI) (by omega) (by omega) (by omega)) cw_X6_128 [1] M hK hZ hw hl.1 rfl (by decide) ⟨by decide, by decide⟩ ⟨Nat.zero_le _, Nat.zero_le _⟩ rfl rfl (Nat.le_of_ble_eq_true rfl) dX6_ask_30 (fun r sg h_7 H locs hw => ?_)
  obtain ⟨rfl, rfl⟩ := h_7
  have hw : xW G A s.heap [[(mo, .inr (5, [.int (nI 0), .ref tx, .int (nI sz), .ref nw, .ref tr, .ref dy, .int (nI (min (ac + 1) 14)), .ref kp, .ref ik, .ref td, .ref ch, .int (nI sp), .int (nI ou)]))], [(nw, .inl (Y 0, 140, .inl (rowF (mAsk ρ b k n))))], [(dy, .inl (Y 0, 1960, .inl (rowF φa5)))]] H locs := hw
  have q_8 : act (mAsk ρ b k n) b ≤ 243 := ask_le hI (by omega) (by omega) (by omega)
  exact hret _ _ _ (nI (act (mAsk ρ b k n) b)) _ _ dX6_ask_33 hw rfl rfl ⟨rfl, _, hda6, rfl⟩
set_option maxHeartbeats 4000000 in
set_option maxRecDepth 20000 in
theorem k_X6_bid (l : Launch) (G : va_G) (Y : Nat → Nat) (mo rf tx sz nw tr dy ac kp ik td ch sp ou : Nat) (b : Nat) (ρ : Nat → Nat) (φ : Nat → Nat) (dia : Nat → Nat → Nat) (hI : Inv ρ) (hac : ac ≤ 14) (hdi : diaOk ac φ dia) (g0 : b < 2 ^ 31) (ht : tBid ρ b = 0) : CtI l yX6_bid cX6_bid 2 .int 3 74 [.ref mo, .int (nI b)] [[(mo, .inr (5, [.int (nI rf), .ref tx, .int (nI sz), .ref nw, .ref tr, .ref dy, .int (nI ac), .ref kp, .ref ik, .ref td, .ref ch, .int (nI sp), .int (nI ou)]))], [(nw, .inl (Y 0, 140, .inl (rowF ρ)))], [(dy, .inl (Y 0, 1960, .inl (rowF φ)))]] (fun r sg => r = prof (mBid ρ b) b ∧ ∃ (φ' : Nat → Nat), diaOk (min (ac + 1) 14) φ' (diaPut ac dia ρ) ∧ sg = [[(mo, .inr (5, [.int (nI 0), .ref tx, .int (nI sz), .ref nw, .ref tr, .ref dy, .int (nI (min (ac + 1) 14)), .ref kp, .ref ik, .ref td, .ref ch, .int (nI sp), .int (nI ou)]))], [(nw, .inl (Y 0, 140, .inl (rowF (mBid ρ b))))], [(dy, .inl (Y 0, 1960, .inl (rowF φ')))]]) G Y := by
  refine x_ofI (by decide) (Nat.le_of_ble_eq_true rfl) (fun p e s m args below meth c A ls Q M hK hZ hw hl hret => ?_)
  obtain ⟨hx, hb, -⟩ := id M
  have hl : lv_has ls 2 [(0, .ref mo), (1, .int (nI b))] := hl
  have := hI.n6
  have := hI.over
  have := hI.keep
  have := hI.stepp
  have hok := okN_bid ht
  refine lv_aload_n hx hb dX6_bid_0 rfl (lv_at hl 0 rfl) ?_
  refine lv_aload_n hx hb dX6_bid_1 rfl (lv_at hl 0 rfl) ?_
  refine x_get M hK hw 0 0 rfl rfl ff_X6_13 rfl dX6_bid_2 ?_
  refine lv_iload_n hx hb dX6_bid_5 rfl (lv_at hl 1 rfl) ?_
  refine x_cSI (As := [.ref nw, .int (nI b)]) (k_X6_isBidder l G Y nw ρ (nI b) (hI)) cw_X6_79 [1] M hK hZ hw hl.1 rfl (by decide) ⟨by decide, by decide⟩ ⟨Nat.zero_le _, Nat.zero_le _⟩ rfl rfl (Nat.le_of_ble_eq_true rfl) dX6_bid_6 (fun r sg h_1 H locs hw => ?_)
  obtain ⟨rfl, rfl⟩ := h_1
  have hw : xW G A s.heap [[(mo, .inr (5, [.int (nI rf), .ref tx, .int (nI sz), .ref nw, .ref tr, .ref dy, .int (nI ac), .ref kp, .ref ik, .ref td, .ref ch, .int (nI sp), .int (nI ou)]))], [(nw, .inl (Y 0, 140, .inl (rowF ρ)))], [(dy, .inl (Y 0, 1960, .inl (rowF φ)))]] H locs := hw
  refine x_bne M (tgt := 16) dX6_bid_9 (by decide) (fun c_2 => ?_) (fun c_2 => absurd c_2 (fun z => pzF z (by omega) ⟨by omega, by omega⟩))
  refine lv_aload_n hx hb dX6_bid_16 rfl (lv_at hl 0 rfl) ?_
  refine x_get M hK hw 0 0 rfl rfl ff_X6_13 rfl dX6_bid_17 ?_
  refine lv_iconst (v := (nI 1)) hx hb dX6_bid_20 (by decide) ?_
  refine x_iald M hK hw 1 0 rfl rfl (by decide) (by decide) dX6_bid_21 ?_
  refine x_topN (n := ρ 1) rfl ?_
  have q_3 : ρ 1 ≤ 1 := hI.over
  refine lv_iconst (v := (nI 1)) hx hb dX6_bid_22 (by decide) ?_
  refine x_cne M (tgt := 30) (by omega) (by decide) dX6_bid_23 (by decide) (fun c_4 => ?_) (fun c_4 => absurd c_4 (by omega))
  refine lv_iconst (v := (nI 0)) hx hb dX6_bid_30 (by decide) ?_
  refine x_cVI (As := [.int (nI 0)]) (k_X6_refused l G Y mo rf tx sz nw tr dy ac kp ik td ch sp ou 0 (by omega)) cw_X6_103 [0] 0 0 M hK hZ hw hl.1 rfl (by decide) rfl rfl rfl ⟨by decide, by decide⟩ ⟨Nat.zero_le _, Nat.zero_le _⟩ rfl rfl (Nat.le_of_ble_eq_true rfl) dX6_bid_31 (fun r sg h_5 H locs hw => ?_)
  obtain ⟨rfl, rfl⟩ := h_5
  have hw : xW G A s.heap [[(mo, .inr (5, [.int (nI 0), .ref tx, .int (nI sz), .ref nw, .ref tr, .ref dy, .int (nI ac), .ref kp, .ref ik, .ref td, .ref ch, .int (nI sp), .int (nI ou)]))], [(nw, .inl (Y 0, 140, .inl (rowF ρ)))], [(dy, .inl (Y 0, 1960, .inl (rowF φ)))]] H locs := hw
  refine x_beq M (tgt := 39) dX6_bid_34 (by decide) (fun c_6 => ?_) (fun c_6 => absurd c_6 (fun z => by first | exact absurd z (by decide) | (have := of_decide_eq_true z; omega) | (have := of_decide_eq_false z; omega)))
  refine lv_aload_n hx hb dX6_bid_39 rfl (lv_at hl 0 rfl) ?_
  refine x_cVV (As := []) (k_X6_remember l G Y mo 0 tx sz nw tr dy ac kp ik td ch sp ou φ ρ dia (by omega) (hdi)) cw_X6_167 [0, 1, 2] 0 0 M hK hZ hw hl.1 rfl (by decide) rfl rfl rfl ⟨by decide, by decide⟩ ⟨Nat.zero_le _, Nat.zero_le _⟩ rfl rfl (Nat.le_of_ble_eq_true rfl) dX6_bid_40 (fun sg h_7 H locs hw => ?_)
  obtain ⟨φa8, hda9, rfl⟩ := h_7
  have hw : xW G A s.heap [[(mo, .inr (5, [.int (nI 0), .ref tx, .int (nI sz), .ref nw, .ref tr, .ref dy, .int (nI (min (ac + 1) 14)), .ref kp, .ref ik, .ref td, .ref ch, .int (nI sp), .int (nI ou)]))], [(nw, .inl (Y 0, 140, .inl (rowF ρ)))], [(dy, .inl (Y 0, 1960, .inl (rowF φa8)))]] H locs := hw
  refine lv_aload_n hx hb dX6_bid_43 rfl (lv_at hl 0 rfl) ?_
  refine x_get M hK hw 0 0 rfl rfl ff_X6_13 rfl dX6_bid_44 ?_
  refine lv_iload_n hx hb dX6_bid_47 rfl (lv_at hl 1 rfl) ?_
  refine x_cSI (As := [.ref nw, .int (nI b)]) (k_X6_bidOn l G Y nw b ρ (hI) (by omega)) cw_X6_131 [1] M hK hZ hw hl.1 rfl (by decide) ⟨by decide, by decide⟩ ⟨Nat.zero_le _, Nat.zero_le _⟩ rfl rfl (Nat.le_of_ble_eq_true rfl) dX6_bid_48 (fun r sg h_10 H locs hw => ?_)
  obtain ⟨rfl, rfl⟩ := h_10
  have hw : xW G A s.heap [[(mo, .inr (5, [.int (nI 0), .ref tx, .int (nI sz), .ref nw, .ref tr, .ref dy, .int (nI (min (ac + 1) 14)), .ref kp, .ref ik, .ref td, .ref ch, .int (nI sp), .int (nI ou)]))], [(nw, .inl (Y 0, 140, .inl (rowF (mBid ρ b))))], [(dy, .inl (Y 0, 1960, .inl (rowF φa8)))]] H locs := hw
  exact hret _ _ _ (prof (mBid ρ b) b) _ _ dX6_bid_51 hw rfl rfl ⟨rfl, _, hda9, rfl⟩
set_option maxHeartbeats 4000000 in
set_option maxRecDepth 20000 in
theorem k_X6_close (l : Launch) (G : va_G) (Y : Nat → Nat) (mo rf tx sz nw tr dy ac kp ik td ch sp ou : Nat) (ρ : Nat → Nat) (φ : Nat → Nat) (dia : Nat → Nat → Nat) (hI : Inv ρ) (hac : ac ≤ 14) (hdi : diaOk ac φ dia) (ht : whyClose ρ = 0) : CtI l yX6_close cX6_close 1 .int 4 88 [.ref mo] [[(mo, .inr (5, [.int (nI rf), .ref tx, .int (nI sz), .ref nw, .ref tr, .ref dy, .int (nI ac), .ref kp, .ref ik, .ref td, .ref ch, .int (nI sp), .int (nI ou)]))], [(nw, .inl (Y 0, 140, .inl (rowF ρ)))], [(dy, .inl (Y 0, 1960, .inl (rowF φ)))]] (fun r sg => r = nI (scarce (cl1 ρ)) ∧ ∃ (φ' : Nat → Nat), diaOk (min (ac + 1) 14) φ' (diaPut ac dia ρ) ∧ sg = [[(mo, .inr (5, [.int (nI 0), .ref tx, .int (nI sz), .ref nw, .ref tr, .ref dy, .int (nI (min (ac + 1) 14)), .ref kp, .ref ik, .ref td, .ref ch, .int (nI sp), .int (nI ou)]))], [(nw, .inl (Y 0, 140, .inl (rowF (mClose ρ))))], [(dy, .inl (Y 0, 1960, .inl (rowF φ')))]]) G Y := by
  refine x_ofI (by decide) (Nat.le_of_ble_eq_true rfl) (fun p e s m args below meth c A ls Q M hK hZ hw hl hret => ?_)
  obtain ⟨hx, hb, -⟩ := id M
  have hl : lv_has ls 1 [(0, .ref mo)] := hl
  have := hI.n6
  have := hI.over
  have := hI.keep
  have := hI.stepp
  have hok := ok_close ht
  refine lv_aload_n hx hb dX6_close_0 rfl (lv_at hl 0 rfl) ?_
  refine lv_aload_n hx hb dX6_close_1 rfl (lv_at hl 0 rfl) ?_
  refine x_get M hK hw 0 0 rfl rfl ff_X6_13 rfl dX6_close_2 ?_
  refine lv_iconst (v := (nI 1)) hx hb dX6_close_5 (by decide) ?_
  refine x_iald M hK hw 1 0 rfl rfl (by decide) (by decide) dX6_close_6 ?_
  refine x_topN (n := ρ 1) rfl ?_
  have q_1 : ρ 1 ≤ 1 := hI.over
  refine lv_iconst (v := (nI 1)) hx hb dX6_close_7 (by decide) ?_
  refine x_cne M (tgt := 15) (by omega) (by decide) dX6_close_8 (by decide) (fun c_2 => ?_) (fun c_2 => absurd c_2 (by omega))
  refine lv_iconst (v := (nI 0)) hx hb dX6_close_15 (by decide) ?_
  refine x_cVI (As := [.int (nI 0)]) (k_X6_refused l G Y mo rf tx sz nw tr dy ac kp ik td ch sp ou 0 (by omega)) cw_X6_103 [0] 0 0 M hK hZ hw hl.1 rfl (by decide) rfl rfl rfl ⟨by decide, by decide⟩ ⟨Nat.zero_le _, Nat.zero_le _⟩ rfl rfl (Nat.le_of_ble_eq_true rfl) dX6_close_16 (fun r sg h_3 H locs hw => ?_)
  obtain ⟨rfl, rfl⟩ := h_3
  have hw : xW G A s.heap [[(mo, .inr (5, [.int (nI 0), .ref tx, .int (nI sz), .ref nw, .ref tr, .ref dy, .int (nI ac), .ref kp, .ref ik, .ref td, .ref ch, .int (nI sp), .int (nI ou)]))], [(nw, .inl (Y 0, 140, .inl (rowF ρ)))], [(dy, .inl (Y 0, 1960, .inl (rowF φ)))]] H locs := hw
  refine x_beq M (tgt := 24) dX6_close_19 (by decide) (fun c_4 => ?_) (fun c_4 => absurd c_4 (fun z => by first | exact absurd z (by decide) | (have := of_decide_eq_true z; omega) | (have := of_decide_eq_false z; omega)))
  refine lv_aload_n hx hb dX6_close_24 rfl (lv_at hl 0 rfl) ?_
  refine x_cVV (As := []) (k_X6_remember l G Y mo 0 tx sz nw tr dy ac kp ik td ch sp ou φ ρ dia (by omega) (hdi)) cw_X6_167 [0, 1, 2] 0 0 M hK hZ hw hl.1 rfl (by decide) rfl rfl rfl ⟨by decide, by decide⟩ ⟨Nat.zero_le _, Nat.zero_le _⟩ rfl rfl (Nat.le_of_ble_eq_true rfl) dX6_close_25 (fun sg h_5 H locs hw => ?_)
  obtain ⟨φa6, hda7, rfl⟩ := h_5
  have hw : xW G A s.heap [[(mo, .inr (5, [.int (nI 0), .ref tx, .int (nI sz), .ref nw, .ref tr, .ref dy, .int (nI (min (ac + 1) 14)), .ref kp, .ref ik, .ref td, .ref ch, .int (nI sp), .int (nI ou)]))], [(nw, .inl (Y 0, 140, .inl (rowF ρ)))], [(dy, .inl (Y 0, 1960, .inl (rowF φa6)))]] H locs := hw
  refine lv_aload_n hx hb dX6_close_28 rfl (lv_at hl 0 rfl) ?_
  refine x_get M hK hw 0 0 rfl rfl ff_X6_13 rfl dX6_close_29 ?_
  refine x_cSI (As := [.ref nw]) (k_X6_closeOn l G Y nw ρ (hI)) cw_X6_134 [1] M hK hZ hw hl.1 rfl (by decide) ⟨by decide, by decide⟩ ⟨Nat.zero_le _, Nat.zero_le _⟩ rfl rfl (Nat.le_of_ble_eq_true rfl) dX6_close_32 (fun r sg h_8 H locs hw => ?_)
  obtain ⟨rfl, rfl⟩ := h_8
  have hw : xW G A s.heap [[(mo, .inr (5, [.int (nI 0), .ref tx, .int (nI sz), .ref nw, .ref tr, .ref dy, .int (nI (min (ac + 1) 14)), .ref kp, .ref ik, .ref td, .ref ch, .int (nI sp), .int (nI ou)]))], [(nw, .inl (Y 0, 140, .inl (rowF (mClose ρ))))], [(dy, .inl (Y 0, 1960, .inl (rowF φa6)))]] H locs := hw
  have q_9 : scarce (cl1 ρ) ≤ 3 := scarce_le
  exact hret _ _ _ (nI (scarce (cl1 ρ))) _ _ dX6_close_35 hw rfl rfl ⟨rfl, _, hda7, rfl⟩
set_option maxHeartbeats 4000000 in
set_option maxRecDepth 20000 in
theorem k_X6_add (l : Launch) (G : va_G) (Y : Nat → Nat) (mo rf tx sz nw tr dy ac kp ik td ch sp ou : Nat) (b x y z v : Nat) (ρ : Nat → Nat) (φ : Nat → Nat) (dia : Nat → Nat → Nat) (hI : Inv ρ) (hac : ac ≤ 14) (hdi : diaOk ac φ dia) (g0 : b < 2 ^ 31) (g1 : x < 2 ^ 31) (g2 : y < 2 ^ 31) (g3 : z < 2 ^ 31) (g4 : v < 2 ^ 31) (ht : tAdd ρ b x y z v = 0) : CtI l yX6_add cX6_add 6 .int 3 74 [.ref mo, .int (nI b), .int (nI x), .int (nI y), .int (nI z), .int (nI v)] [[(mo, .inr (5, [.int (nI rf), .ref tx, .int (nI sz), .ref nw, .ref tr, .ref dy, .int (nI ac), .ref kp, .ref ik, .ref td, .ref ch, .int (nI sp), .int (nI ou)]))], [(nw, .inl (Y 0, 140, .inl (rowF ρ)))], [(dy, .inl (Y 0, 1960, .inl (rowF φ)))]] (fun r sg => r = nI (ρ (22 + 21 * b) + 1) ∧ ∃ (φ' : Nat → Nat), diaOk (min (ac + 1) 14) φ' (diaPut ac dia ρ) ∧ sg = [[(mo, .inr (5, [.int (nI 0), .ref tx, .int (nI sz), .ref nw, .ref tr, .ref dy, .int (nI (min (ac + 1) 14)), .ref kp, .ref ik, .ref td, .ref ch, .int (nI sp), .int (nI ou)]))], [(nw, .inl (Y 0, 140, .inl (rowF (mAdd ρ b x y z v))))], [(dy, .inl (Y 0, 1960, .inl (rowF φ')))]]) G Y := by
  refine x_ofI (by decide) (Nat.le_of_ble_eq_true rfl) (fun p e s m args below meth c A ls Q M hK hZ hw hl hret => ?_)
  obtain ⟨hx, hb, -⟩ := id M
  have hl : lv_has ls 6 [(0, .ref mo), (1, .int (nI b)), (2, .int (nI x)), (3, .int (nI y)), (4, .int (nI z)), (5, .int (nI v))] := hl
  have := hI.n6
  have := hI.over
  have := hI.keep
  have := hI.stepp
  have hok := okN_add ht
  refine lv_aload_n hx hb dX6_add_0 rfl (lv_at hl 0 rfl) ?_
  refine lv_aload_n hx hb dX6_add_1 rfl (lv_at hl 0 rfl) ?_
  refine x_get M hK hw 0 0 rfl rfl ff_X6_13 rfl dX6_add_2 ?_
  refine lv_iload_n hx hb dX6_add_5 rfl (lv_at hl 1 rfl) ?_
  refine lv_iload_n hx hb dX6_add_6 rfl (lv_at hl 2 rfl) ?_
  refine lv_iload_n hx hb dX6_add_7 rfl (lv_at hl 3 rfl) ?_
  refine lv_iload hx hb dX6_add_8 (lv_at hl 4 rfl) ?_
  refine lv_iload hx hb dX6_add_10 (lv_at hl 5 rfl) ?_
  refine x_cSI (As := [.ref nw, .int (nI b), .int (nI x), .int (nI y), .int (nI z), .int (nI v)]) (k_X6_whyNotAdd l G Y nw ρ (nI b) (nI x) (nI y) (nI z) (nI v) (hI)) cw_X6_170 [1] M hK hZ hw hl.1 rfl (by decide) ⟨by decide, by decide⟩ ⟨Nat.zero_le _, Nat.zero_le _⟩ rfl rfl (Nat.le_of_ble_eq_true rfl) dX6_add_12 (fun r sg h_1 H locs hw => ?_)
  obtain ⟨rfl, rfl⟩ := h_1
  have hw : xW G A s.heap [[(mo, .inr (5, [.int (nI rf), .ref tx, .int (nI sz), .ref nw, .ref tr, .ref dy, .int (nI ac), .ref kp, .ref ik, .ref td, .ref ch, .int (nI sp), .int (nI ou)]))], [(nw, .inl (Y 0, 140, .inl (rowF ρ)))], [(dy, .inl (Y 0, 1960, .inl (rowF φ)))]] H locs := hw
  refine x_topN (n := 0) (congrArg nI (by have h9 := ht; unfold tAdd at h9; rw [nI_toInt g0, nI_toInt g1, nI_toInt g2, nI_toInt g3, nI_toInt g4, h9])) ?_
  refine x_cVI (As := [.int (nI 0)]) (k_X6_refused l G Y mo rf tx sz nw tr dy ac kp ik td ch sp ou 0 (by omega)) cw_X6_103 [0] 0 0 M hK hZ hw hl.1 rfl (by decide) rfl rfl rfl ⟨by decide, by decide⟩ ⟨Nat.zero_le _, Nat.zero_le _⟩ rfl rfl (Nat.le_of_ble_eq_true rfl) dX6_add_15 (fun r sg h_2 H locs hw => ?_)
  obtain ⟨rfl, rfl⟩ := h_2
  have hw : xW G A s.heap [[(mo, .inr (5, [.int (nI 0), .ref tx, .int (nI sz), .ref nw, .ref tr, .ref dy, .int (nI ac), .ref kp, .ref ik, .ref td, .ref ch, .int (nI sp), .int (nI ou)]))], [(nw, .inl (Y 0, 140, .inl (rowF ρ)))], [(dy, .inl (Y 0, 1960, .inl (rowF φ)))]] H locs := hw
  refine x_beq M (tgt := 23) dX6_add_18 (by decide) (fun c_3 => ?_) (fun c_3 => absurd c_3 (fun z => by first | exact absurd z (by decide) | (have := of_decide_eq_true z; omega) | (have := of_decide_eq_false z; omega)))
  refine lv_aload_n hx hb dX6_add_23 rfl (lv_at hl 0 rfl) ?_
  refine x_cVV (As := []) (k_X6_remember l G Y mo 0 tx sz nw tr dy ac kp ik td ch sp ou φ ρ dia (by omega) (hdi)) cw_X6_167 [0, 1, 2] 0 0 M hK hZ hw hl.1 rfl (by decide) rfl rfl rfl ⟨by decide, by decide⟩ ⟨Nat.zero_le _, Nat.zero_le _⟩ rfl rfl (Nat.le_of_ble_eq_true rfl) dX6_add_24 (fun sg h_4 H locs hw => ?_)
  obtain ⟨φa5, hda6, rfl⟩ := h_4
  have hw : xW G A s.heap [[(mo, .inr (5, [.int (nI 0), .ref tx, .int (nI sz), .ref nw, .ref tr, .ref dy, .int (nI (min (ac + 1) 14)), .ref kp, .ref ik, .ref td, .ref ch, .int (nI sp), .int (nI ou)]))], [(nw, .inl (Y 0, 140, .inl (rowF ρ)))], [(dy, .inl (Y 0, 1960, .inl (rowF φa5)))]] H locs := hw
  refine lv_aload_n hx hb dX6_add_27 rfl (lv_at hl 0 rfl) ?_
  refine x_get M hK hw 0 0 rfl rfl ff_X6_13 rfl dX6_add_28 ?_
  refine lv_iload_n hx hb dX6_add_31 rfl (lv_at hl 1 rfl) ?_
  refine lv_iload_n hx hb dX6_add_32 rfl (lv_at hl 2 rfl) ?_
  refine lv_iload_n hx hb dX6_add_33 rfl (lv_at hl 3 rfl) ?_
  refine lv_iload hx hb dX6_add_34 (lv_at hl 4 rfl) ?_
  refine lv_iload hx hb dX6_add_36 (lv_at hl 5 rfl) ?_
  refine x_cSI (As := [.ref nw, .int (nI b), .int (nI x), .int (nI y), .int (nI z), .int (nI v)]) (k_X6_addOn l G Y nw b x y z v ρ (hI) (by omega) (by omega)) cw_X6_174 [1] M hK hZ hw hl.1 rfl (by decide) ⟨by decide, by decide⟩ ⟨Nat.zero_le _, Nat.zero_le _⟩ rfl rfl (Nat.le_of_ble_eq_true rfl) dX6_add_38 (fun r sg h_7 H locs hw => ?_)
  obtain ⟨rfl, rfl⟩ := h_7
  have hw : xW G A s.heap [[(mo, .inr (5, [.int (nI 0), .ref tx, .int (nI sz), .ref nw, .ref tr, .ref dy, .int (nI (min (ac + 1) 14)), .ref kp, .ref ik, .ref td, .ref ch, .int (nI sp), .int (nI ou)]))], [(nw, .inl (Y 0, 140, .inl (rowF (mAdd ρ b x y z v))))], [(dy, .inl (Y 0, 1960, .inl (rowF φa5)))]] H locs := hw
  refine x_topN (n := (ρ (22 + 21 * b) + 1)) (congrArg nI (by omega)) ?_
  exact hret _ _ _ (nI (ρ (22 + 21 * b) + 1)) _ _ dX6_add_41 hw rfl rfl ⟨rfl, _, hda6, rfl⟩
set_option maxHeartbeats 4000000 in
set_option maxRecDepth 20000 in
theorem k_X6_drop (l : Launch) (G : va_G) (Y : Nat → Nat) (mo rf tx sz nw tr dy ac kp ik td ch sp ou : Nat) (b i : Nat) (ρ : Nat → Nat) (φ : Nat → Nat) (dia : Nat → Nat → Nat) (hI : Inv ρ) (hac : ac ≤ 14) (hdi : diaOk ac φ dia) (g0 : b < 2 ^ 31) (g1 : i < 2 ^ 31) (ht : tDrop ρ b i = 0) : CtI l yX6_drop cX6_drop 3 .int 3 68 [.ref mo, .int (nI b), .int (nI i)] [[(mo, .inr (5, [.int (nI rf), .ref tx, .int (nI sz), .ref nw, .ref tr, .ref dy, .int (nI ac), .ref kp, .ref ik, .ref td, .ref ch, .int (nI sp), .int (nI ou)]))], [(nw, .inl (Y 0, 140, .inl (rowF ρ)))], [(dy, .inl (Y 0, 1960, .inl (rowF φ)))]] (fun r sg => r = nI (ρ (22 + 21 * b) - 1) ∧ ∃ (φ' : Nat → Nat), diaOk (min (ac + 1) 14) φ' (diaPut ac dia ρ) ∧ sg = [[(mo, .inr (5, [.int (nI 0), .ref tx, .int (nI sz), .ref nw, .ref tr, .ref dy, .int (nI (min (ac + 1) 14)), .ref kp, .ref ik, .ref td, .ref ch, .int (nI sp), .int (nI ou)]))], [(nw, .inl (Y 0, 140, .inl (rowF (mDrop ρ b i))))], [(dy, .inl (Y 0, 1960, .inl (rowF φ')))]]) G Y := by
  refine x_ofI (by decide) (Nat.le_of_ble_eq_true rfl) (fun p e s m args below meth c A ls Q M hK hZ hw hl hret => ?_)
  obtain ⟨hx, hb, -⟩ := id M
  have hl : lv_has ls 3 [(0, .ref mo), (1, .int (nI b)), (2, .int (nI i))] := hl
  have := hI.n6
  have := hI.over
  have := hI.keep
  have := hI.stepp
  have hok := okN_drop ht
  refine lv_aload_n hx hb dX6_drop_0 rfl (lv_at hl 0 rfl) ?_
  refine lv_aload_n hx hb dX6_drop_1 rfl (lv_at hl 0 rfl) ?_
  refine x_get M hK hw 0 0 rfl rfl ff_X6_13 rfl dX6_drop_2 ?_
  refine lv_iload_n hx hb dX6_drop_5 rfl (lv_at hl 1 rfl) ?_
  refine lv_iload_n hx hb dX6_drop_6 rfl (lv_at hl 2 rfl) ?_
  refine x_cSI (As := [.ref nw, .int (nI b), .int (nI i)]) (k_X6_canDrop l G Y nw ρ (nI b) (nI i) (hI)) cw_X6_177 [1] M hK hZ hw hl.1 rfl (by decide) ⟨by decide, by decide⟩ ⟨Nat.zero_le _, Nat.zero_le _⟩ rfl rfl (Nat.le_of_ble_eq_true rfl) dX6_drop_7 (fun r sg h_1 H locs hw => ?_)
  obtain ⟨rfl, rfl⟩ := h_1
  have hw : xW G A s.heap [[(mo, .inr (5, [.int (nI rf), .ref tx, .int (nI sz), .ref nw, .ref tr, .ref dy, .int (nI ac), .ref kp, .ref ik, .ref td, .ref ch, .int (nI sp), .int (nI ou)]))], [(nw, .inl (Y 0, 140, .inl (rowF ρ)))], [(dy, .inl (Y 0, 1960, .inl (rowF φ)))]] H locs := hw
  refine x_topI (y := b2i (decide (tDrop ρ b i = 0))) (congrArg b2i (canDr_eq g0 g1)) ?_
  refine x_beq M (tgt := 17) dX6_drop_10 (by decide) (fun c_2 => absurd c_2 (fun z => absurd ht (of_decide_eq_false z))) (fun c_2 => ?_)
  refine lv_iconst (v := (nI 0)) hx hb dX6_drop_13 (by decide) ?_
  refine lv_goto (tgt := 18) hx hb dX6_drop_14 (by decide) ?_
  refine x_cVI (As := [.int (nI 0)]) (k_X6_refused l G Y mo rf tx sz nw tr dy ac kp ik td ch sp ou 0 (by omega)) cw_X6_103 [0] 0 0 M hK hZ hw hl.1 rfl (by decide) rfl rfl rfl ⟨by decide, by decide⟩ ⟨Nat.zero_le _, Nat.zero_le _⟩ rfl rfl (Nat.le_of_ble_eq_true rfl) dX6_drop_18 (fun r sg h_3 H locs hw => ?_)
  obtain ⟨rfl, rfl⟩ := h_3
  have hw : xW G A s.heap [[(mo, .inr (5, [.int (nI 0), .ref tx, .int (nI sz), .ref nw, .ref tr, .ref dy, .int (nI ac), .ref kp, .ref ik, .ref td, .ref ch, .int (nI sp), .int (nI ou)]))], [(nw, .inl (Y 0, 140, .inl (rowF ρ)))], [(dy, .inl (Y 0, 1960, .inl (rowF φ)))]] H locs := hw
  refine x_beq M (tgt := 26) dX6_drop_21 (by decide) (fun c_4 => ?_) (fun c_4 => absurd c_4 (fun z => by first | exact absurd z (by decide) | (have := of_decide_eq_true z; omega) | (have := of_decide_eq_false z; omega)))
  refine lv_aload_n hx hb dX6_drop_26 rfl (lv_at hl 0 rfl) ?_
  refine x_cVV (As := []) (k_X6_remember l G Y mo 0 tx sz nw tr dy ac kp ik td ch sp ou φ ρ dia (by omega) (hdi)) cw_X6_167 [0, 1, 2] 0 0 M hK hZ hw hl.1 rfl (by decide) rfl rfl rfl ⟨by decide, by decide⟩ ⟨Nat.zero_le _, Nat.zero_le _⟩ rfl rfl (Nat.le_of_ble_eq_true rfl) dX6_drop_27 (fun sg h_5 H locs hw => ?_)
  obtain ⟨φa6, hda7, rfl⟩ := h_5
  have hw : xW G A s.heap [[(mo, .inr (5, [.int (nI 0), .ref tx, .int (nI sz), .ref nw, .ref tr, .ref dy, .int (nI (min (ac + 1) 14)), .ref kp, .ref ik, .ref td, .ref ch, .int (nI sp), .int (nI ou)]))], [(nw, .inl (Y 0, 140, .inl (rowF ρ)))], [(dy, .inl (Y 0, 1960, .inl (rowF φa6)))]] H locs := hw
  refine lv_aload_n hx hb dX6_drop_30 rfl (lv_at hl 0 rfl) ?_
  refine x_get M hK hw 0 0 rfl rfl ff_X6_13 rfl dX6_drop_31 ?_
  refine lv_iload_n hx hb dX6_drop_34 rfl (lv_at hl 1 rfl) ?_
  refine lv_iload_n hx hb dX6_drop_35 rfl (lv_at hl 2 rfl) ?_
  refine x_cSI (As := [.ref nw, .int (nI b), .int (nI i)]) (k_X6_dropOn l G Y nw b i ρ (hI) (by omega) (by omega) (by omega)) cw_X6_181 [1] M hK hZ hw hl.1 rfl (by decide) ⟨by decide, by decide⟩ ⟨Nat.zero_le _, Nat.zero_le _⟩ rfl rfl (Nat.le_of_ble_eq_true rfl) dX6_drop_36 (fun r sg h_8 H locs hw => ?_)
  obtain ⟨rfl, rfl⟩ := h_8
  have hw : xW G A s.heap [[(mo, .inr (5, [.int (nI 0), .ref tx, .int (nI sz), .ref nw, .ref tr, .ref dy, .int (nI (min (ac + 1) 14)), .ref kp, .ref ik, .ref td, .ref ch, .int (nI sp), .int (nI ou)]))], [(nw, .inl (Y 0, 140, .inl (rowF (mDrop ρ b i))))], [(dy, .inl (Y 0, 1960, .inl (rowF φa6)))]] H locs := hw
  have q_9 : ρ (22 + 21 * b) ≤ 3 := hI.pck (by omega) rfl
  refine x_topN (n := (ρ (22 + 21 * b) - 1)) (congrArg nI (by omega)) ?_
  exact hret _ _ _ (nI (ρ (22 + 21 * b) - 1)) _ _ dX6_drop_39 hw rfl rfl ⟨rfl, _, hda7, rfl⟩
set_option maxHeartbeats 4000000 in
set_option maxRecDepth 20000 in
theorem k_X6_set (l : Launch) (G : va_G) (Y : Nat → Nat) (mo rf tx sz nw tr dy ac kp ik td ch sp ou : Nat) (w v : Nat) (ρ : Nat → Nat) (φ : Nat → Nat) (dia : Nat → Nat → Nat) (hI : Inv ρ) (hac : ac ≤ 14) (hdi : diaOk ac φ dia) (g0 : w < 2 ^ 31) (g1 : v < 2 ^ 31) (ht : tSet w v = 0) : CtI l yX6_set cX6_set 4 .int 2 46 [.ref mo, .int (nI w), .int (nI v)] [[(mo, .inr (5, [.int (nI rf), .ref tx, .int (nI sz), .ref nw, .ref tr, .ref dy, .int (nI ac), .ref kp, .ref ik, .ref td, .ref ch, .int (nI sp), .int (nI ou)]))], [(nw, .inl (Y 0, 140, .inl (rowF ρ)))], [(dy, .inl (Y 0, 1960, .inl (rowF φ)))]] (fun r sg => r = nI (setOf ρ (w : Int)) ∧ ∃ (φ' : Nat → Nat), diaOk (min (ac + 1) 14) φ' (diaPut ac dia ρ) ∧ sg = [[(mo, .inr (5, [.int (nI 0), .ref tx, .int (nI sz), .ref nw, .ref tr, .ref dy, .int (nI (min (ac + 1) 14)), .ref kp, .ref ik, .ref td, .ref ch, .int (nI sp), .int (nI ou)]))], [(nw, .inl (Y 0, 140, .inl (rowF (mSet ρ (w : Int) v))))], [(dy, .inl (Y 0, 1960, .inl (rowF φ')))]]) G Y := by
  refine x_ofI (by decide) (Nat.le_of_ble_eq_true rfl) (fun p e s m args below meth c A ls Q M hK hZ hw hl hret => ?_)
  obtain ⟨hx, hb, -⟩ := id M
  have hl : lv_has ls 4 [(0, .ref mo), (1, .int (nI w)), (2, .int (nI v))] := hl
  have := hI.n6
  have := hI.over
  have := hI.keep
  have := hI.stepp
  have hok := okN_set ht
  refine lv_aload_n hx hb dX6_set_0 rfl (lv_at hl 0 rfl) ?_
  refine lv_iload_n hx hb dX6_set_1 rfl (lv_at hl 1 rfl) ?_
  refine lv_iload_n hx hb dX6_set_2 rfl (lv_at hl 2 rfl) ?_
  refine x_cSI (As := [.int (nI w), .int (nI v)]) (k_X6_isSetting l G Y (nI w) (nI v)) cw_X6_188 [] M hK hZ hw hl.1 rfl (by decide) ⟨by decide, by decide⟩ ⟨Nat.zero_le _, Nat.zero_le _⟩ rfl rfl (Nat.le_of_ble_eq_true rfl) dX6_set_3 (fun r sg h_1 H locs hw => ?_)
  obtain ⟨rfl, rfl⟩ := h_1
  have hw : xW G A s.heap [[(mo, .inr (5, [.int (nI rf), .ref tx, .int (nI sz), .ref nw, .ref tr, .ref dy, .int (nI ac), .ref kp, .ref ik, .ref td, .ref ch, .int (nI sp), .int (nI ou)]))], [(nw, .inl (Y 0, 140, .inl (rowF ρ)))], [(dy, .inl (Y 0, 1960, .inl (rowF φ)))]] H locs := hw
  refine x_topI (y := b2i (decide (tSet w v = 0))) (congrArg b2i (isSet_eq g0 g1)) ?_
  refine x_beq M (tgt := 13) dX6_set_6 (by decide) (fun c_2 => absurd c_2 (fun z => absurd ht (of_decide_eq_false z))) (fun c_2 => ?_)
  refine lv_iconst (v := (nI 0)) hx hb dX6_set_9 (by decide) ?_
  refine lv_goto (tgt := 14) hx hb dX6_set_10 (by decide) ?_
  refine x_cVI (As := [.int (nI 0)]) (k_X6_refused l G Y mo rf tx sz nw tr dy ac kp ik td ch sp ou 0 (by omega)) cw_X6_103 [0] 0 0 M hK hZ hw hl.1 rfl (by decide) rfl rfl rfl ⟨by decide, by decide⟩ ⟨Nat.zero_le _, Nat.zero_le _⟩ rfl rfl (Nat.le_of_ble_eq_true rfl) dX6_set_14 (fun r sg h_3 H locs hw => ?_)
  obtain ⟨rfl, rfl⟩ := h_3
  have hw : xW G A s.heap [[(mo, .inr (5, [.int (nI 0), .ref tx, .int (nI sz), .ref nw, .ref tr, .ref dy, .int (nI ac), .ref kp, .ref ik, .ref td, .ref ch, .int (nI sp), .int (nI ou)]))], [(nw, .inl (Y 0, 140, .inl (rowF ρ)))], [(dy, .inl (Y 0, 1960, .inl (rowF φ)))]] H locs := hw
  refine x_beq M (tgt := 22) dX6_set_17 (by decide) (fun c_4 => ?_) (fun c_4 => absurd c_4 (fun z => by first | exact absurd z (by decide) | (have := of_decide_eq_true z; omega) | (have := of_decide_eq_false z; omega)))
  refine lv_aload_n hx hb dX6_set_22 rfl (lv_at hl 0 rfl) ?_
  refine x_cVV (As := []) (k_X6_remember l G Y mo 0 tx sz nw tr dy ac kp ik td ch sp ou φ ρ dia (by omega) (hdi)) cw_X6_167 [0, 1, 2] 0 0 M hK hZ hw hl.1 rfl (by decide) rfl rfl rfl ⟨by decide, by decide⟩ ⟨Nat.zero_le _, Nat.zero_le _⟩ rfl rfl (Nat.le_of_ble_eq_true rfl) dX6_set_23 (fun sg h_5 H locs hw => ?_)
  obtain ⟨φa6, hda7, rfl⟩ := h_5
  have hw : xW G A s.heap [[(mo, .inr (5, [.int (nI 0), .ref tx, .int (nI sz), .ref nw, .ref tr, .ref dy, .int (nI (min (ac + 1) 14)), .ref kp, .ref ik, .ref td, .ref ch, .int (nI sp), .int (nI ou)]))], [(nw, .inl (Y 0, 140, .inl (rowF ρ)))], [(dy, .inl (Y 0, 1960, .inl (rowF φa6)))]] H locs := hw
  rcases (show w = 0 ∨ w = 1 by by_cases h9 : (w : Int) = 0; (exact Or.inl (by omega)); (exact Or.inr (hok.2 h9).1)) with rfl | rfl
  · refine lv_aload_n hx hb dX6_set_26 rfl (lv_at hl 0 rfl) ?_
    refine x_get M hK hw 0 0 rfl rfl ff_X6_13 rfl dX6_set_27 ?_
    refine lv_iconst (v := (nI 2)) hx hb dX6_set_30 (by decide) ?_
    refine lv_iload_n hx hb dX6_set_31 rfl (lv_at hl 1 rfl) ?_
    refine x_iadd M (n := 2) dX6_set_32 rfl ?_
    refine x_iald M hK hw 1 0 rfl rfl (by decide) (by decide) dX6_set_33 ?_
    refine x_topN (n := ρ 2) rfl ?_
    have q_8 : 50 ≤ ρ 2 := hI.keep.1
    have q_9 : ρ 2 ≤ 100 := hI.keep.2
    refine lv_istore_n (lv' := [(3, .int (nI (ρ 2))), (0, .ref mo), (1, .int (nI 0)), (2, .int (nI v))]) hx hb dX6_set_34 rfl hl (by decide) rfl (fun ls hl => ?_)
    refine lv_aload_n hx hb dX6_set_35 rfl (lv_at hl 1 rfl) ?_
    refine x_get M hK hw 0 0 rfl rfl ff_X6_13 rfl dX6_set_36 ?_
    refine lv_iconst (v := (nI 2)) hx hb dX6_set_39 (by decide) ?_
    refine lv_iload_n hx hb dX6_set_40 rfl (lv_at hl 2 rfl) ?_
    refine x_iadd M (n := 2) dX6_set_41 rfl ?_
    refine lv_iload_n hx hb dX6_set_42 rfl (lv_at hl 3 rfl) ?_
    refine x_iast M hK hw 1 0 rfl rfl (by decide) (by decide) dX6_set_43 (fun H locs hw => ?_)
    rw [upd_row] at hw
    have hw : xW G A s.heap [[(mo, .inr (5, [.int (nI 0), .ref tx, .int (nI sz), .ref nw, .ref tr, .ref dy, .int (nI (min (ac + 1) 14)), .ref kp, .ref ik, .ref td, .ref ch, .int (nI sp), .int (nI ou)]))], [(nw, .inl (Y 0, 140, .inl (rowF (setN ρ 2 v))))], [(dy, .inl (Y 0, 1960, .inl (rowF φa6)))]] H locs := hw
    refine lv_iload_n hx hb dX6_set_44 rfl (lv_at hl 0 rfl) ?_
    have hw := row_fold (i := 1) (f' := rowF (mSet ρ ((0 : Nat) : Int) v)) hw rfl (fun q hq => congrArg nI (by clear hret hw hl M hK hZ hx hb; unfold mSet; rfl))
    have hw : xW G A s.heap [[(mo, .inr (5, [.int (nI 0), .ref tx, .int (nI sz), .ref nw, .ref tr, .ref dy, .int (nI (min (ac + 1) 14)), .ref kp, .ref ik, .ref td, .ref ch, .int (nI sp), .int (nI ou)]))], [(nw, .inl (Y 0, 140, .inl (rowF (mSet ρ ((0 : Nat) : Int) v))))], [(dy, .inl (Y 0, 1960, .inl (rowF φa6)))]] H locs := hw
    exact hret _ _ _ (nI (ρ 2)) _ _ dX6_set_45 hw rfl rfl ⟨rfl, _, hda7, rfl⟩
  · refine lv_aload_n hx hb dX6_set_26 rfl (lv_at hl 0 rfl) ?_
    refine x_get M hK hw 0 0 rfl rfl ff_X6_13 rfl dX6_set_27 ?_
    refine lv_iconst (v := (nI 2)) hx hb dX6_set_30 (by decide) ?_
    refine lv_iload_n hx hb dX6_set_31 rfl (lv_at hl 1 rfl) ?_
    refine x_iadd M (n := 3) dX6_set_32 rfl ?_
    refine x_iald M hK hw 1 0 rfl rfl (by decide) (by decide) dX6_set_33 ?_
    refine x_topN (n := ρ 3) rfl ?_
    have q_10 : 1 ≤ ρ 3 := (hI.stepp).1
    have q_11 : ρ 3 ≤ 50 := (hI.stepp).2
    refine lv_istore_n (lv' := [(3, .int (nI (ρ 3))), (0, .ref mo), (1, .int (nI 1)), (2, .int (nI v))]) hx hb dX6_set_34 rfl hl (by decide) rfl (fun ls hl => ?_)
    refine lv_aload_n hx hb dX6_set_35 rfl (lv_at hl 1 rfl) ?_
    refine x_get M hK hw 0 0 rfl rfl ff_X6_13 rfl dX6_set_36 ?_
    refine lv_iconst (v := (nI 2)) hx hb dX6_set_39 (by decide) ?_
    refine lv_iload_n hx hb dX6_set_40 rfl (lv_at hl 2 rfl) ?_
    refine x_iadd M (n := 3) dX6_set_41 rfl ?_
    refine lv_iload_n hx hb dX6_set_42 rfl (lv_at hl 3 rfl) ?_
    refine x_iast M hK hw 1 0 rfl rfl (by decide) (by decide) dX6_set_43 (fun H locs hw => ?_)
    rw [upd_row] at hw
    have hw : xW G A s.heap [[(mo, .inr (5, [.int (nI 0), .ref tx, .int (nI sz), .ref nw, .ref tr, .ref dy, .int (nI (min (ac + 1) 14)), .ref kp, .ref ik, .ref td, .ref ch, .int (nI sp), .int (nI ou)]))], [(nw, .inl (Y 0, 140, .inl (rowF (setN ρ 3 v))))], [(dy, .inl (Y 0, 1960, .inl (rowF φa6)))]] H locs := hw
    refine lv_iload_n hx hb dX6_set_44 rfl (lv_at hl 0 rfl) ?_
    have hw := row_fold (i := 1) (f' := rowF (mSet ρ ((1 : Nat) : Int) v)) hw rfl (fun q hq => congrArg nI (by clear hret hw hl M hK hZ hx hb; unfold mSet; rfl))
    have hw : xW G A s.heap [[(mo, .inr (5, [.int (nI 0), .ref tx, .int (nI sz), .ref nw, .ref tr, .ref dy, .int (nI (min (ac + 1) 14)), .ref kp, .ref ik, .ref td, .ref ch, .int (nI sp), .int (nI ou)]))], [(nw, .inl (Y 0, 140, .inl (rowF (mSet ρ ((1 : Nat) : Int) v))))], [(dy, .inl (Y 0, 1960, .inl (rowF φa6)))]] H locs := hw
    exact hret _ _ _ (nI (ρ 3)) _ _ dX6_set_45 hw rfl rfl ⟨rfl, _, hda7, rfl⟩
set_option maxHeartbeats 4000000 in
set_option maxRecDepth 20000 in
theorem k_X6_undo (l : Launch) (G : va_G) (Y : Nat → Nat) (mo rf tx sz nw tr dy ac kp ik td ch sp ou : Nat) (ρ : Nat → Nat) (φ : Nat → Nat) (dia : Nat → Nat → Nat) (hac : ac ≤ 14) (hdi : diaOk ac φ dia) (hac0 : 0 < ac) : CtI l yX6_undo cX6_undo 1 .int 1 24 [.ref mo] [[(mo, .inr (5, [.int (nI rf), .ref tx, .int (nI sz), .ref nw, .ref tr, .ref dy, .int (nI ac), .ref kp, .ref ik, .ref td, .ref ch, .int (nI sp), .int (nI ou)]))], [(nw, .inl (Y 0, 140, .inl (rowF ρ)))], [(dy, .inl (Y 0, 1960, .inl (rowF φ)))]] (fun r sg => r = nI (ac - 1) ∧ sg = [[(mo, .inr (5, [.int (nI 0), .ref tx, .int (nI sz), .ref nw, .ref tr, .ref dy, .int (nI (ac - 1)), .ref kp, .ref ik, .ref td, .ref ch, .int (nI sp), .int (nI ou)]))], [(nw, .inl (Y 0, 140, .inl (rowF (dia (ac - 1)))))], [(dy, .inl (Y 0, 1960, .inl (rowF φ)))]]) G Y := by
  refine x_ofI (by decide) (Nat.le_of_ble_eq_true rfl) (fun p e s m args below meth c A ls Q M hK hZ hw hl hret => ?_)
  obtain ⟨hx, hb, -⟩ := id M
  have hl : lv_has ls 1 [(0, .ref mo)] := hl
  refine lv_aload_n hx hb dX6_undo_0 rfl (lv_at hl 0 rfl) ?_
  refine lv_aload_n hx hb dX6_undo_1 rfl (lv_at hl 0 rfl) ?_
  refine x_get M hK hw 0 0 rfl rfl ff_X6_158 rfl dX6_undo_2 ?_
  refine x_zne M (tgt := 12) (by omega) dX6_undo_5 (by decide) (fun c_1 => ?_) (fun c_1 => absurd c_1 (by omega))
  refine lv_iconst (v := (nI 0)) hx hb dX6_undo_12 (by decide) ?_
  refine x_cVI (As := [.int (nI 0)]) (k_X6_refused l G Y mo rf tx sz nw tr dy ac kp ik td ch sp ou 0 (by omega)) cw_X6_103 [0] 0 0 M hK hZ hw hl.1 rfl (by decide) rfl rfl rfl ⟨by decide, by decide⟩ ⟨Nat.zero_le _, Nat.zero_le _⟩ rfl rfl (Nat.le_of_ble_eq_true rfl) dX6_undo_13 (fun r sg h_2 H locs hw => ?_)
  obtain ⟨rfl, rfl⟩ := h_2
  have hw : xW G A s.heap [[(mo, .inr (5, [.int (nI 0), .ref tx, .int (nI sz), .ref nw, .ref tr, .ref dy, .int (nI ac), .ref kp, .ref ik, .ref td, .ref ch, .int (nI sp), .int (nI ou)]))], [(nw, .inl (Y 0, 140, .inl (rowF ρ)))], [(dy, .inl (Y 0, 1960, .inl (rowF φ)))]] H locs := hw
  refine x_beq M (tgt := 21) dX6_undo_16 (by decide) (fun c_3 => ?_) (fun c_3 => absurd c_3 (fun z => by first | exact absurd z (by decide) | (have := of_decide_eq_true z; omega) | (have := of_decide_eq_false z; omega)))
  refine lv_aload_n hx hb dX6_undo_21 rfl (lv_at hl 0 rfl) ?_
  refine lv_dup hx hb dX6_undo_22 rfl ?_
  refine x_get M hK hw 0 0 rfl rfl ff_X6_158 rfl dX6_undo_23 ?_
  refine lv_iconst (v := (nI 1)) hx hb dX6_undo_26 (by decide) ?_
  refine x_isub M (n := (ac - 1)) dX6_undo_27 (by omega) ?_
  refine x_put M hK hw 0 0 rfl rfl fp_X6_158 rfl rfl (Nat.le_of_ble_eq_true rfl) dX6_undo_28 (fun H locs hw => ?_)
  have hw : xW G A s.heap [[(mo, .inr (5, [.int (nI 0), .ref tx, .int (nI sz), .ref nw, .ref tr, .ref dy, .int (nI (ac - 1)), .ref kp, .ref ik, .ref td, .ref ch, .int (nI sp), .int (nI ou)]))], [(nw, .inl (Y 0, 140, .inl (rowF ρ)))], [(dy, .inl (Y 0, 1960, .inl (rowF φ)))]] H locs := hw
  refine lv_aload_n hx hb dX6_undo_31 rfl (lv_at hl 0 rfl) ?_
  refine x_get M hK hw 0 0 rfl rfl ff_X6_19 rfl dX6_undo_32 ?_
  refine lv_sipush (v := (nI 140)) hx hb dX6_undo_35 (by decide) ?_
  refine lv_aload_n hx hb dX6_undo_38 rfl (lv_at hl 0 rfl) ?_
  refine x_get M hK hw 0 0 rfl rfl ff_X6_158 rfl dX6_undo_39 ?_
  refine x_imul M (n := 140 * (ac - 1)) dX6_undo_42 (by omega) ?_
  refine lv_aload_n hx hb dX6_undo_43 rfl (lv_at hl 0 rfl) ?_
  refine x_get M hK hw 0 0 rfl rfl ff_X6_13 rfl dX6_undo_44 ?_
  refine lv_iconst (v := (nI 0)) hx hb dX6_undo_47 (by decide) ?_
  refine x_cSV (As := [.ref dy, .int (nI (140 * (ac - 1))), .ref nw, .int (nI 0)]) (k_X6_copyState l G Y dy nw 1960 140 (140 * (ac - 1)) 0 φ ρ (by omega) (by omega) (by omega) (by omega)) cw_X6_154 [2, 1] M hK hZ hw hl.1 rfl (by decide) ⟨by decide, by decide⟩ ⟨Nat.zero_le _, Nat.zero_le _⟩ rfl rfl (Nat.le_of_ble_eq_true rfl) dX6_undo_48 (fun sg h_4 H locs hw => ?_)
  obtain rfl := h_4
  have hw : xW G A s.heap [[(mo, .inr (5, [.int (nI 0), .ref tx, .int (nI sz), .ref nw, .ref tr, .ref dy, .int (nI (ac - 1)), .ref kp, .ref ik, .ref td, .ref ch, .int (nI sp), .int (nI ou)]))], [(nw, .inl (Y 0, 140, .inl (rowF (cpS φ ρ (140 * (ac - 1)) 0 140))))], [(dy, .inl (Y 0, 1960, .inl (rowF φ)))]] H locs := hw
  have hw := row_fold (i := 1) (f' := rowF (dia (ac - 1))) hw rfl (fun q hq => congrArg nI (by clear hret hw hl M hK hZ hx hb; have h9 := cpS_in (f := φ) (g := ρ) (fa := 140 * (ac - 1)) (ta := 0) (k := q) (m := 140) hq; simp only [Nat.zero_add] at h9; rw [h9]; exact (hdi (ac - 1) (by omega) q hq).symm))
  have hw : xW G A s.heap [[(mo, .inr (5, [.int (nI 0), .ref tx, .int (nI sz), .ref nw, .ref tr, .ref dy, .int (nI (ac - 1)), .ref kp, .ref ik, .ref td, .ref ch, .int (nI sp), .int (nI ou)]))], [(nw, .inl (Y 0, 140, .inl (rowF (dia (ac - 1)))))], [(dy, .inl (Y 0, 1960, .inl (rowF φ)))]] H locs := hw
  refine lv_aload_n hx hb dX6_undo_51 rfl (lv_at hl 0 rfl) ?_
  refine x_get M hK hw 0 0 rfl rfl ff_X6_158 rfl dX6_undo_52 ?_
  exact hret _ _ _ (nI (ac - 1)) _ _ dX6_undo_55 hw rfl rfl ⟨rfl, rfl⟩
set_option maxHeartbeats 4000000 in
set_option maxRecDepth 20000 in
theorem f_X6_undo (l : Launch) (G : va_G) (Y : Nat → Nat) (mo rf tx sz nw tr dy ac kp ik td ch sp ou : Nat) (hac0 : ac = 0) : CtI l yX6_undo cX6_undo 1 .int 1 21 [.ref mo] [[(mo, .inr (5, [.int (nI rf), .ref tx, .int (nI sz), .ref nw, .ref tr, .ref dy, .int (nI ac), .ref kp, .ref ik, .ref td, .ref ch, .int (nI sp), .int (nI ou)]))]] (fun r sg => r = nI 0 ∧ sg = [[(mo, .inr (5, [.int (nI 1), .ref tx, .int (nI sz), .ref nw, .ref tr, .ref dy, .int (nI ac), .ref kp, .ref ik, .ref td, .ref ch, .int (nI sp), .int (nI ou)]))]]) G Y := by
  refine x_ofI (by decide) (Nat.le_of_ble_eq_true rfl) (fun p e s m args below meth c A ls Q M hK hZ hw hl hret => ?_)
  obtain ⟨hx, hb, -⟩ := id M
  have hl : lv_has ls 1 [(0, .ref mo)] := hl
  refine lv_aload_n hx hb dX6_undo_0 rfl (lv_at hl 0 rfl) ?_
  refine lv_aload_n hx hb dX6_undo_1 rfl (lv_at hl 0 rfl) ?_
  refine x_get M hK hw 0 0 rfl rfl ff_X6_158 rfl dX6_undo_2 ?_
  refine x_zne M (tgt := 12) (by omega) dX6_undo_5 (by decide) (fun c_1 => absurd c_1 (by omega)) (fun c_1 => ?_)
  refine lv_iconst (v := (nI 1)) hx hb dX6_undo_8 (by decide) ?_
  refine lv_goto (tgt := 13) hx hb dX6_undo_9 (by decide) ?_
  refine x_cVI (As := [.int (nI 1)]) (k_X6_refused l G Y mo rf tx sz nw tr dy ac kp ik td ch sp ou 1 (by omega)) cw_X6_103 [0] 0 0 M hK hZ hw hl.1 rfl (by decide) rfl rfl rfl ⟨by decide, by decide⟩ ⟨Nat.zero_le _, Nat.zero_le _⟩ rfl rfl (Nat.le_of_ble_eq_true rfl) dX6_undo_13 (fun r sg h_2 H locs hw => ?_)
  obtain ⟨rfl, rfl⟩ := h_2
  have hw : xW G A s.heap [[(mo, .inr (5, [.int (nI 1), .ref tx, .int (nI sz), .ref nw, .ref tr, .ref dy, .int (nI ac), .ref kp, .ref ik, .ref td, .ref ch, .int (nI sp), .int (nI ou)]))]] H locs := hw
  refine x_beq M (tgt := 21) dX6_undo_16 (by decide) (fun c_3 => absurd c_3 (fun z => by first | exact absurd z (by decide) | (have := of_decide_eq_true z; omega) | (have := of_decide_eq_false z; omega))) (fun c_3 => ?_)
  refine lv_iconst (v := (nI 0)) hx hb dX6_undo_19 (by decide) ?_
  exact hret _ _ _ (nI 0) _ _ dX6_undo_20 hw rfl rfl ⟨rfl, rfl⟩
set_option maxHeartbeats 4000000 in
set_option maxRecDepth 20000 in
theorem f_X6_offer_1 (l : Launch) (G : va_G) (Y : Nat → Nat) (mo rf tx sz nw tr dy ac kp ik td ch sp ou : Nat) (k u v : Int32) (ρ : Nat → Nat) (hI : Inv ρ) (hwhy : whyOffer ρ k.toInt u.toInt v.toInt = 1) : CtI l yX6_offer cX6_offer 5 .int 2 45 [.ref mo, .int k, .int u, .int v] [[(mo, .inr (5, [.int (nI rf), .ref tx, .int (nI sz), .ref nw, .ref tr, .ref dy, .int (nI ac), .ref kp, .ref ik, .ref td, .ref ch, .int (nI sp), .int (nI ou)]))], [(nw, .inl (Y 0, 140, .inl (rowF ρ)))]] (fun r sg => r = nI 0 ∧ sg = [[(mo, .inr (5, [.int (nI 1), .ref tx, .int (nI sz), .ref nw, .ref tr, .ref dy, .int (nI ac), .ref kp, .ref ik, .ref td, .ref ch, .int (nI sp), .int (nI ou)]))], [(nw, .inl (Y 0, 140, .inl (rowF ρ)))]]) G Y := by
  refine x_ofI (by decide) (Nat.le_of_ble_eq_true rfl) (fun p e s m args below meth c A ls Q M hK hZ hw hl hret => ?_)
  obtain ⟨hx, hb, -⟩ := id M
  have hl : lv_has ls 5 [(0, .ref mo), (1, .int k), (2, .int u), (3, .int v)] := hl
  have := hI.n6
  have := hI.over
  have := hI.keep
  have := hI.stepp
  refine lv_aload_n hx hb dX6_offer_0 rfl (lv_at hl 0 rfl) ?_
  refine lv_iload_n hx hb dX6_offer_1 rfl (lv_at hl 1 rfl) ?_
  refine x_cSI (As := [.int k]) (k_X6_isKind l G Y k) cw_X6_83 [] M hK hZ hw hl.1 rfl (by decide) ⟨by decide, by decide⟩ ⟨Nat.zero_le _, Nat.zero_le _⟩ rfl rfl (Nat.le_of_ble_eq_true rfl) dX6_offer_2 (fun r sg h_1 H locs hw => ?_)
  obtain ⟨rfl, rfl⟩ := h_1
  have hw : xW G A s.heap [[(mo, .inr (5, [.int (nI rf), .ref tx, .int (nI sz), .ref nw, .ref tr, .ref dy, .int (nI ac), .ref kp, .ref ik, .ref td, .ref ch, .int (nI sp), .int (nI ou)]))], [(nw, .inl (Y 0, 140, .inl (rowF ρ)))]] H locs := hw
  refine x_bne M (tgt := 12) dX6_offer_5 (by decide) (fun c_2 => ?_) (fun c_2 => ?_)
  · refine lv_iload_n hx hb dX6_offer_12 rfl (lv_at hl 2 rfl) ?_
    refine lv_i2l (v := u.toInt64) hx hb dX6_offer_13 rfl ?_
    refine lv_lconst (v := 1) hx hb dX6_offer_14 (by decide) ?_
    refine lv_ldc2 (v := 9) hx hb M.2.2.2.1 (M.2.2.2.2 _ mw_1086) dX6_offer_15 ?_
    refine x_cSI (As := [.long u.toInt64, .long 1, .long 9]) (k_X6_in l G Y u.toInt64 1 9) cw_X6_45 [] M hK hZ hw hl.1 rfl (by decide) ⟨by decide, by decide⟩ ⟨Nat.zero_le _, Nat.zero_le _⟩ rfl rfl (Nat.le_of_ble_eq_true rfl) dX6_offer_18 (fun r sg h_3 H locs hw => ?_)
    obtain ⟨rfl, rfl⟩ := h_3
    have hw : xW G A s.heap [[(mo, .inr (5, [.int (nI rf), .ref tx, .int (nI sz), .ref nw, .ref tr, .ref dy, .int (nI ac), .ref kp, .ref ik, .ref td, .ref ch, .int (nI sp), .int (nI ou)]))], [(nw, .inl (Y 0, 140, .inl (rowF ρ)))]] H locs := hw
    refine x_topI (y := b2i (inZ u.toInt 1 9)) (by rw [Int32.toInt_toInt64]; rfl) ?_
    refine x_beq M (tgt := 36) dX6_offer_21 (by decide) (fun c_4 => ?_) (fun c_4 => ?_)
    · refine lv_iconst (v := (nI 2)) hx hb dX6_offer_36 (by decide) ?_
      refine lv_goto (tgt := 63) hx hb dX6_offer_37 (by decide) ?_
      exact absurd hwhy (by clear hret hw hl M hK hZ hx hb; unfold whyOffer; (first | rw [if_pos c_2] | rw [if_neg (Bool.eq_false_iff.mp c_2)] | rw [if_neg (nIn c_2)] | rw [if_pos (nOut c_2)] | rw [if_neg (by omega)] | rw [if_pos (by omega)]) <;> (first | rw [if_pos c_4] | rw [if_neg (Bool.eq_false_iff.mp c_4)] | rw [if_neg (nIn c_4)] | rw [if_pos (nOut c_4)] | rw [if_neg (by omega)] | rw [if_pos (by omega)]); first | decide | omega)
    refine lv_iload_n hx hb dX6_offer_24 rfl (lv_at hl 3 rfl) ?_
    refine lv_i2l (v := v.toInt64) hx hb dX6_offer_25 rfl ?_
    refine lv_lconst (v := 1) hx hb dX6_offer_26 (by decide) ?_
    refine lv_ldc2 (v := 9) hx hb M.2.2.2.1 (M.2.2.2.2 _ mw_1086) dX6_offer_27 ?_
    refine x_cSI (As := [.long v.toInt64, .long 1, .long 9]) (k_X6_in l G Y v.toInt64 1 9) cw_X6_45 [] M hK hZ hw hl.1 rfl (by decide) ⟨by decide, by decide⟩ ⟨Nat.zero_le _, Nat.zero_le _⟩ rfl rfl (Nat.le_of_ble_eq_true rfl) dX6_offer_30 (fun r sg h_5 H locs hw => ?_)
    obtain ⟨rfl, rfl⟩ := h_5
    have hw : xW G A s.heap [[(mo, .inr (5, [.int (nI rf), .ref tx, .int (nI sz), .ref nw, .ref tr, .ref dy, .int (nI ac), .ref kp, .ref ik, .ref td, .ref ch, .int (nI sp), .int (nI ou)]))], [(nw, .inl (Y 0, 140, .inl (rowF ρ)))]] H locs := hw
    refine x_topI (y := b2i (inZ v.toInt 1 9)) (by rw [Int32.toInt_toInt64]; rfl) ?_
    refine x_bne M (tgt := 40) dX6_offer_33 (by decide) (fun c_6 => ?_) (fun c_6 => ?_)
    · refine lv_aload_n hx hb dX6_offer_40 rfl (lv_at hl 0 rfl) ?_
      refine x_get M hK hw 0 0 rfl rfl ff_X6_13 rfl dX6_offer_41 ?_
      refine lv_iconst (v := (nI 0)) hx hb dX6_offer_44 (by decide) ?_
      refine x_iald M hK hw 1 0 rfl rfl (by decide) (by decide) dX6_offer_45 ?_
      refine x_topN (n := ρ 0) rfl ?_
      refine lv_if_gt (tgt := 58) hx hb dX6_offer_46 (by decide) (fun c_7 => ?_) (fun c_7 => ?_)
      · have c_7 := startI_gt c_7
        refine lv_iconst (v := (nI 3)) hx hb dX6_offer_58 (by decide) ?_
        refine lv_goto (tgt := 63) hx hb dX6_offer_59 (by decide) ?_
        exact absurd hwhy (by clear hret hw hl M hK hZ hx hb; unfold whyOffer; (first | rw [if_pos c_2] | rw [if_neg (Bool.eq_false_iff.mp c_2)] | rw [if_neg (nIn c_2)] | rw [if_pos (nOut c_2)] | rw [if_neg (by omega)] | rw [if_pos (by omega)]) <;> (first | rw [if_pos c_4] | rw [if_neg (Bool.eq_false_iff.mp c_4)] | rw [if_neg (nIn c_4)] | rw [if_pos (nOut c_4)] | rw [if_neg (by omega)] | rw [if_pos (by omega)]) <;> (first | rw [if_pos c_6] | rw [if_neg (Bool.eq_false_iff.mp c_6)] | rw [if_neg (nIn c_6)] | rw [if_pos (nOut c_6)] | rw [if_neg (by omega)] | rw [if_pos (by omega)]) <;> (first | rw [if_pos c_7] | rw [if_neg (Bool.eq_false_iff.mp c_7)] | rw [if_neg (nIn c_7)] | rw [if_pos (nOut c_7)] | rw [if_neg (by omega)] | rw [if_pos (by omega)]); first | decide | omega)
      have c_7 := startN_gt c_7
      refine lv_aload_n hx hb dX6_offer_49 rfl (lv_at hl 0 rfl) ?_
      refine x_get M hK hw 0 0 rfl rfl ff_X6_13 rfl dX6_offer_50 ?_
      refine lv_iconst (v := (nI 4)) hx hb dX6_offer_53 (by decide) ?_
      refine x_iald M hK hw 1 0 rfl rfl (by decide) (by decide) dX6_offer_54 ?_
      refine x_topN (n := ρ 4) rfl ?_
      have q_8 : ρ 4 ≤ 6 := hI.n6
      refine x_zle M (tgt := 62) (by omega) dX6_offer_55 (by decide) (fun c_9 => ?_) (fun c_9 => ?_)
      · refine lv_iconst (v := (nI 0)) hx hb dX6_offer_62 (by decide) ?_
        exact absurd hwhy (by clear hret hw hl M hK hZ hx hb; unfold whyOffer; (first | rw [if_pos c_2] | rw [if_neg (Bool.eq_false_iff.mp c_2)] | rw [if_neg (nIn c_2)] | rw [if_pos (nOut c_2)] | rw [if_neg (by omega)] | rw [if_pos (by omega)]) <;> (first | rw [if_pos c_4] | rw [if_neg (Bool.eq_false_iff.mp c_4)] | rw [if_neg (nIn c_4)] | rw [if_pos (nOut c_4)] | rw [if_neg (by omega)] | rw [if_pos (by omega)]) <;> (first | rw [if_pos c_6] | rw [if_neg (Bool.eq_false_iff.mp c_6)] | rw [if_neg (nIn c_6)] | rw [if_pos (nOut c_6)] | rw [if_neg (by omega)] | rw [if_pos (by omega)]) <;> (first | rw [if_pos c_7] | rw [if_neg (Bool.eq_false_iff.mp c_7)] | rw [if_neg (nIn c_7)] | rw [if_pos (nOut c_7)] | rw [if_neg (by omega)] | rw [if_pos (by omega)]) <;> (first | rw [if_pos c_9] | rw [if_neg (Bool.eq_false_iff.mp c_9)] | rw [if_neg (nIn c_9)] | rw [if_pos (nOut c_9)] | rw [if_neg (by omega)] | rw [if_pos (by omega)]); first | decide | omega)
      refine lv_iconst (v := (nI 3)) hx hb dX6_offer_58 (by decide) ?_
      refine lv_goto (tgt := 63) hx hb dX6_offer_59 (by decide) ?_
      exact absurd hwhy (by clear hret hw hl M hK hZ hx hb; unfold whyOffer; (first | rw [if_pos c_2] | rw [if_neg (Bool.eq_false_iff.mp c_2)] | rw [if_neg (nIn c_2)] | rw [if_pos (nOut c_2)] | rw [if_neg (by omega)] | rw [if_pos (by omega)]) <;> (first | rw [if_pos c_4] | rw [if_neg (Bool.eq_false_iff.mp c_4)] | rw [if_neg (nIn c_4)] | rw [if_pos (nOut c_4)] | rw [if_neg (by omega)] | rw [if_pos (by omega)]) <;> (first | rw [if_pos c_6] | rw [if_neg (Bool.eq_false_iff.mp c_6)] | rw [if_neg (nIn c_6)] | rw [if_pos (nOut c_6)] | rw [if_neg (by omega)] | rw [if_pos (by omega)]) <;> (first | rw [if_pos c_7] | rw [if_neg (Bool.eq_false_iff.mp c_7)] | rw [if_neg (nIn c_7)] | rw [if_pos (nOut c_7)] | rw [if_neg (by omega)] | rw [if_pos (by omega)]) <;> (first | rw [if_pos c_9] | rw [if_neg (Bool.eq_false_iff.mp c_9)] | rw [if_neg (nIn c_9)] | rw [if_pos (nOut c_9)] | rw [if_neg (by omega)] | rw [if_pos (by omega)]); first | decide | omega)
    refine lv_iconst (v := (nI 2)) hx hb dX6_offer_36 (by decide) ?_
    refine lv_goto (tgt := 63) hx hb dX6_offer_37 (by decide) ?_
    exact absurd hwhy (by clear hret hw hl M hK hZ hx hb; unfold whyOffer; (first | rw [if_pos c_2] | rw [if_neg (Bool.eq_false_iff.mp c_2)] | rw [if_neg (nIn c_2)] | rw [if_pos (nOut c_2)] | rw [if_neg (by omega)] | rw [if_pos (by omega)]) <;> (first | rw [if_pos c_4] | rw [if_neg (Bool.eq_false_iff.mp c_4)] | rw [if_neg (nIn c_4)] | rw [if_pos (nOut c_4)] | rw [if_neg (by omega)] | rw [if_pos (by omega)]) <;> (first | rw [if_pos c_6] | rw [if_neg (Bool.eq_false_iff.mp c_6)] | rw [if_neg (nIn c_6)] | rw [if_pos (nOut c_6)] | rw [if_neg (by omega)] | rw [if_pos (by omega)]); first | decide | omega)
  refine lv_iconst (v := (nI 1)) hx hb dX6_offer_8 (by decide) ?_
  refine lv_goto (tgt := 63) hx hb dX6_offer_9 (by decide) ?_
  refine x_cVI (As := [.int (nI 1)]) (k_X6_refused l G Y mo rf tx sz nw tr dy ac kp ik td ch sp ou 1 (by omega)) cw_X6_103 [0] 0 0 M hK hZ hw hl.1 rfl (by decide) rfl rfl rfl ⟨by decide, by decide⟩ ⟨Nat.zero_le _, Nat.zero_le _⟩ rfl rfl (Nat.le_of_ble_eq_true rfl) dX6_offer_63 (fun r sg h_10 H locs hw => ?_)
  obtain ⟨rfl, rfl⟩ := h_10
  have hw : xW G A s.heap [[(mo, .inr (5, [.int (nI 1), .ref tx, .int (nI sz), .ref nw, .ref tr, .ref dy, .int (nI ac), .ref kp, .ref ik, .ref td, .ref ch, .int (nI sp), .int (nI ou)]))], [(nw, .inl (Y 0, 140, .inl (rowF ρ)))]] H locs := hw
  refine x_beq M (tgt := 71) dX6_offer_66 (by decide) (fun c_11 => absurd c_11 (fun z => by first | exact absurd z (by decide) | (have := of_decide_eq_true z; omega) | (have := of_decide_eq_false z; omega))) (fun c_11 => ?_)
  refine lv_iconst (v := (nI 0)) hx hb dX6_offer_69 (by decide) ?_
  exact hret _ _ _ (nI 0) _ _ dX6_offer_70 hw rfl rfl ⟨rfl, rfl⟩
set_option maxHeartbeats 4000000 in
set_option maxRecDepth 20000 in
theorem f_X6_offer_2 (l : Launch) (G : va_G) (Y : Nat → Nat) (mo rf tx sz nw tr dy ac kp ik td ch sp ou : Nat) (k u v : Int32) (ρ : Nat → Nat) (hI : Inv ρ) (hwhy : whyOffer ρ k.toInt u.toInt v.toInt = 2) : CtI l yX6_offer cX6_offer 5 .int 2 45 [.ref mo, .int k, .int u, .int v] [[(mo, .inr (5, [.int (nI rf), .ref tx, .int (nI sz), .ref nw, .ref tr, .ref dy, .int (nI ac), .ref kp, .ref ik, .ref td, .ref ch, .int (nI sp), .int (nI ou)]))], [(nw, .inl (Y 0, 140, .inl (rowF ρ)))]] (fun r sg => r = nI 0 ∧ sg = [[(mo, .inr (5, [.int (nI 2), .ref tx, .int (nI sz), .ref nw, .ref tr, .ref dy, .int (nI ac), .ref kp, .ref ik, .ref td, .ref ch, .int (nI sp), .int (nI ou)]))], [(nw, .inl (Y 0, 140, .inl (rowF ρ)))]]) G Y := by
  refine x_ofI (by decide) (Nat.le_of_ble_eq_true rfl) (fun p e s m args below meth c A ls Q M hK hZ hw hl hret => ?_)
  obtain ⟨hx, hb, -⟩ := id M
  have hl : lv_has ls 5 [(0, .ref mo), (1, .int k), (2, .int u), (3, .int v)] := hl
  have := hI.n6
  have := hI.over
  have := hI.keep
  have := hI.stepp
  refine lv_aload_n hx hb dX6_offer_0 rfl (lv_at hl 0 rfl) ?_
  refine lv_iload_n hx hb dX6_offer_1 rfl (lv_at hl 1 rfl) ?_
  refine x_cSI (As := [.int k]) (k_X6_isKind l G Y k) cw_X6_83 [] M hK hZ hw hl.1 rfl (by decide) ⟨by decide, by decide⟩ ⟨Nat.zero_le _, Nat.zero_le _⟩ rfl rfl (Nat.le_of_ble_eq_true rfl) dX6_offer_2 (fun r sg h_1 H locs hw => ?_)
  obtain ⟨rfl, rfl⟩ := h_1
  have hw : xW G A s.heap [[(mo, .inr (5, [.int (nI rf), .ref tx, .int (nI sz), .ref nw, .ref tr, .ref dy, .int (nI ac), .ref kp, .ref ik, .ref td, .ref ch, .int (nI sp), .int (nI ou)]))], [(nw, .inl (Y 0, 140, .inl (rowF ρ)))]] H locs := hw
  refine x_bne M (tgt := 12) dX6_offer_5 (by decide) (fun c_2 => ?_) (fun c_2 => ?_)
  · refine lv_iload_n hx hb dX6_offer_12 rfl (lv_at hl 2 rfl) ?_
    refine lv_i2l (v := u.toInt64) hx hb dX6_offer_13 rfl ?_
    refine lv_lconst (v := 1) hx hb dX6_offer_14 (by decide) ?_
    refine lv_ldc2 (v := 9) hx hb M.2.2.2.1 (M.2.2.2.2 _ mw_1086) dX6_offer_15 ?_
    refine x_cSI (As := [.long u.toInt64, .long 1, .long 9]) (k_X6_in l G Y u.toInt64 1 9) cw_X6_45 [] M hK hZ hw hl.1 rfl (by decide) ⟨by decide, by decide⟩ ⟨Nat.zero_le _, Nat.zero_le _⟩ rfl rfl (Nat.le_of_ble_eq_true rfl) dX6_offer_18 (fun r sg h_3 H locs hw => ?_)
    obtain ⟨rfl, rfl⟩ := h_3
    have hw : xW G A s.heap [[(mo, .inr (5, [.int (nI rf), .ref tx, .int (nI sz), .ref nw, .ref tr, .ref dy, .int (nI ac), .ref kp, .ref ik, .ref td, .ref ch, .int (nI sp), .int (nI ou)]))], [(nw, .inl (Y 0, 140, .inl (rowF ρ)))]] H locs := hw
    refine x_topI (y := b2i (inZ u.toInt 1 9)) (by rw [Int32.toInt_toInt64]; rfl) ?_
    refine x_beq M (tgt := 36) dX6_offer_21 (by decide) (fun c_4 => ?_) (fun c_4 => ?_)
    · refine lv_iconst (v := (nI 2)) hx hb dX6_offer_36 (by decide) ?_
      refine lv_goto (tgt := 63) hx hb dX6_offer_37 (by decide) ?_
      refine x_cVI (As := [.int (nI 2)]) (k_X6_refused l G Y mo rf tx sz nw tr dy ac kp ik td ch sp ou 2 (by omega)) cw_X6_103 [0] 0 0 M hK hZ hw hl.1 rfl (by decide) rfl rfl rfl ⟨by decide, by decide⟩ ⟨Nat.zero_le _, Nat.zero_le _⟩ rfl rfl (Nat.le_of_ble_eq_true rfl) dX6_offer_63 (fun r sg h_5 H locs hw => ?_)
      obtain ⟨rfl, rfl⟩ := h_5
      have hw : xW G A s.heap [[(mo, .inr (5, [.int (nI 2), .ref tx, .int (nI sz), .ref nw, .ref tr, .ref dy, .int (nI ac), .ref kp, .ref ik, .ref td, .ref ch, .int (nI sp), .int (nI ou)]))], [(nw, .inl (Y 0, 140, .inl (rowF ρ)))]] H locs := hw
      refine x_beq M (tgt := 71) dX6_offer_66 (by decide) (fun c_6 => absurd c_6 (fun z => by first | exact absurd z (by decide) | (have := of_decide_eq_true z; omega) | (have := of_decide_eq_false z; omega))) (fun c_6 => ?_)
      refine lv_iconst (v := (nI 0)) hx hb dX6_offer_69 (by decide) ?_
      exact hret _ _ _ (nI 0) _ _ dX6_offer_70 hw rfl rfl ⟨rfl, rfl⟩
    refine lv_iload_n hx hb dX6_offer_24 rfl (lv_at hl 3 rfl) ?_
    refine lv_i2l (v := v.toInt64) hx hb dX6_offer_25 rfl ?_
    refine lv_lconst (v := 1) hx hb dX6_offer_26 (by decide) ?_
    refine lv_ldc2 (v := 9) hx hb M.2.2.2.1 (M.2.2.2.2 _ mw_1086) dX6_offer_27 ?_
    refine x_cSI (As := [.long v.toInt64, .long 1, .long 9]) (k_X6_in l G Y v.toInt64 1 9) cw_X6_45 [] M hK hZ hw hl.1 rfl (by decide) ⟨by decide, by decide⟩ ⟨Nat.zero_le _, Nat.zero_le _⟩ rfl rfl (Nat.le_of_ble_eq_true rfl) dX6_offer_30 (fun r sg h_7 H locs hw => ?_)
    obtain ⟨rfl, rfl⟩ := h_7
    have hw : xW G A s.heap [[(mo, .inr (5, [.int (nI rf), .ref tx, .int (nI sz), .ref nw, .ref tr, .ref dy, .int (nI ac), .ref kp, .ref ik, .ref td, .ref ch, .int (nI sp), .int (nI ou)]))], [(nw, .inl (Y 0, 140, .inl (rowF ρ)))]] H locs := hw
    refine x_topI (y := b2i (inZ v.toInt 1 9)) (by rw [Int32.toInt_toInt64]; rfl) ?_
    refine x_bne M (tgt := 40) dX6_offer_33 (by decide) (fun c_8 => ?_) (fun c_8 => ?_)
    · refine lv_aload_n hx hb dX6_offer_40 rfl (lv_at hl 0 rfl) ?_
      refine x_get M hK hw 0 0 rfl rfl ff_X6_13 rfl dX6_offer_41 ?_
      refine lv_iconst (v := (nI 0)) hx hb dX6_offer_44 (by decide) ?_
      refine x_iald M hK hw 1 0 rfl rfl (by decide) (by decide) dX6_offer_45 ?_
      refine x_topN (n := ρ 0) rfl ?_
      refine lv_if_gt (tgt := 58) hx hb dX6_offer_46 (by decide) (fun c_9 => ?_) (fun c_9 => ?_)
      · have c_9 := startI_gt c_9
        refine lv_iconst (v := (nI 3)) hx hb dX6_offer_58 (by decide) ?_
        refine lv_goto (tgt := 63) hx hb dX6_offer_59 (by decide) ?_
        exact absurd hwhy (by clear hret hw hl M hK hZ hx hb; unfold whyOffer; (first | rw [if_pos c_2] | rw [if_neg (Bool.eq_false_iff.mp c_2)] | rw [if_neg (nIn c_2)] | rw [if_pos (nOut c_2)] | rw [if_neg (by omega)] | rw [if_pos (by omega)]) <;> (first | rw [if_pos c_4] | rw [if_neg (Bool.eq_false_iff.mp c_4)] | rw [if_neg (nIn c_4)] | rw [if_pos (nOut c_4)] | rw [if_neg (by omega)] | rw [if_pos (by omega)]) <;> (first | rw [if_pos c_8] | rw [if_neg (Bool.eq_false_iff.mp c_8)] | rw [if_neg (nIn c_8)] | rw [if_pos (nOut c_8)] | rw [if_neg (by omega)] | rw [if_pos (by omega)]) <;> (first | rw [if_pos c_9] | rw [if_neg (Bool.eq_false_iff.mp c_9)] | rw [if_neg (nIn c_9)] | rw [if_pos (nOut c_9)] | rw [if_neg (by omega)] | rw [if_pos (by omega)]); first | decide | omega)
      have c_9 := startN_gt c_9
      refine lv_aload_n hx hb dX6_offer_49 rfl (lv_at hl 0 rfl) ?_
      refine x_get M hK hw 0 0 rfl rfl ff_X6_13 rfl dX6_offer_50 ?_
      refine lv_iconst (v := (nI 4)) hx hb dX6_offer_53 (by decide) ?_
      refine x_iald M hK hw 1 0 rfl rfl (by decide) (by decide) dX6_offer_54 ?_
      refine x_topN (n := ρ 4) rfl ?_
      have q_10 : ρ 4 ≤ 6 := hI.n6
      refine x_zle M (tgt := 62) (by omega) dX6_offer_55 (by decide) (fun c_11 => ?_) (fun c_11 => ?_)
      · refine lv_iconst (v := (nI 0)) hx hb dX6_offer_62 (by decide) ?_
        exact absurd hwhy (by clear hret hw hl M hK hZ hx hb; unfold whyOffer; (first | rw [if_pos c_2] | rw [if_neg (Bool.eq_false_iff.mp c_2)] | rw [if_neg (nIn c_2)] | rw [if_pos (nOut c_2)] | rw [if_neg (by omega)] | rw [if_pos (by omega)]) <;> (first | rw [if_pos c_4] | rw [if_neg (Bool.eq_false_iff.mp c_4)] | rw [if_neg (nIn c_4)] | rw [if_pos (nOut c_4)] | rw [if_neg (by omega)] | rw [if_pos (by omega)]) <;> (first | rw [if_pos c_8] | rw [if_neg (Bool.eq_false_iff.mp c_8)] | rw [if_neg (nIn c_8)] | rw [if_pos (nOut c_8)] | rw [if_neg (by omega)] | rw [if_pos (by omega)]) <;> (first | rw [if_pos c_9] | rw [if_neg (Bool.eq_false_iff.mp c_9)] | rw [if_neg (nIn c_9)] | rw [if_pos (nOut c_9)] | rw [if_neg (by omega)] | rw [if_pos (by omega)]) <;> (first | rw [if_pos c_11] | rw [if_neg (Bool.eq_false_iff.mp c_11)] | rw [if_neg (nIn c_11)] | rw [if_pos (nOut c_11)] | rw [if_neg (by omega)] | rw [if_pos (by omega)]); first | decide | omega)
      refine lv_iconst (v := (nI 3)) hx hb dX6_offer_58 (by decide) ?_
      refine lv_goto (tgt := 63) hx hb dX6_offer_59 (by decide) ?_
      exact absurd hwhy (by clear hret hw hl M hK hZ hx hb; unfold whyOffer; (first | rw [if_pos c_2] | rw [if_neg (Bool.eq_false_iff.mp c_2)] | rw [if_neg (nIn c_2)] | rw [if_pos (nOut c_2)] | rw [if_neg (by omega)] | rw [if_pos (by omega)]) <;> (first | rw [if_pos c_4] | rw [if_neg (Bool.eq_false_iff.mp c_4)] | rw [if_neg (nIn c_4)] | rw [if_pos (nOut c_4)] | rw [if_neg (by omega)] | rw [if_pos (by omega)]) <;> (first | rw [if_pos c_8] | rw [if_neg (Bool.eq_false_iff.mp c_8)] | rw [if_neg (nIn c_8)] | rw [if_pos (nOut c_8)] | rw [if_neg (by omega)] | rw [if_pos (by omega)]) <;> (first | rw [if_pos c_9] | rw [if_neg (Bool.eq_false_iff.mp c_9)] | rw [if_neg (nIn c_9)] | rw [if_pos (nOut c_9)] | rw [if_neg (by omega)] | rw [if_pos (by omega)]) <;> (first | rw [if_pos c_11] | rw [if_neg (Bool.eq_false_iff.mp c_11)] | rw [if_neg (nIn c_11)] | rw [if_pos (nOut c_11)] | rw [if_neg (by omega)] | rw [if_pos (by omega)]); first | decide | omega)
    refine lv_iconst (v := (nI 2)) hx hb dX6_offer_36 (by decide) ?_
    refine lv_goto (tgt := 63) hx hb dX6_offer_37 (by decide) ?_
    refine x_cVI (As := [.int (nI 2)]) (k_X6_refused l G Y mo rf tx sz nw tr dy ac kp ik td ch sp ou 2 (by omega)) cw_X6_103 [0] 0 0 M hK hZ hw hl.1 rfl (by decide) rfl rfl rfl ⟨by decide, by decide⟩ ⟨Nat.zero_le _, Nat.zero_le _⟩ rfl rfl (Nat.le_of_ble_eq_true rfl) dX6_offer_63 (fun r sg h_12 H locs hw => ?_)
    obtain ⟨rfl, rfl⟩ := h_12
    have hw : xW G A s.heap [[(mo, .inr (5, [.int (nI 2), .ref tx, .int (nI sz), .ref nw, .ref tr, .ref dy, .int (nI ac), .ref kp, .ref ik, .ref td, .ref ch, .int (nI sp), .int (nI ou)]))], [(nw, .inl (Y 0, 140, .inl (rowF ρ)))]] H locs := hw
    refine x_beq M (tgt := 71) dX6_offer_66 (by decide) (fun c_13 => absurd c_13 (fun z => by first | exact absurd z (by decide) | (have := of_decide_eq_true z; omega) | (have := of_decide_eq_false z; omega))) (fun c_13 => ?_)
    refine lv_iconst (v := (nI 0)) hx hb dX6_offer_69 (by decide) ?_
    exact hret _ _ _ (nI 0) _ _ dX6_offer_70 hw rfl rfl ⟨rfl, rfl⟩
  refine lv_iconst (v := (nI 1)) hx hb dX6_offer_8 (by decide) ?_
  refine lv_goto (tgt := 63) hx hb dX6_offer_9 (by decide) ?_
  exact absurd hwhy (by clear hret hw hl M hK hZ hx hb; unfold whyOffer; (first | rw [if_pos c_2] | rw [if_neg (Bool.eq_false_iff.mp c_2)] | rw [if_neg (nIn c_2)] | rw [if_pos (nOut c_2)] | rw [if_neg (by omega)] | rw [if_pos (by omega)]); first | decide | omega)
set_option maxHeartbeats 4000000 in
set_option maxRecDepth 20000 in
theorem f_X6_offer_3 (l : Launch) (G : va_G) (Y : Nat → Nat) (mo rf tx sz nw tr dy ac kp ik td ch sp ou : Nat) (k u v : Int32) (ρ : Nat → Nat) (hI : Inv ρ) (hwhy : whyOffer ρ k.toInt u.toInt v.toInt = 3) : CtI l yX6_offer cX6_offer 5 .int 2 45 [.ref mo, .int k, .int u, .int v] [[(mo, .inr (5, [.int (nI rf), .ref tx, .int (nI sz), .ref nw, .ref tr, .ref dy, .int (nI ac), .ref kp, .ref ik, .ref td, .ref ch, .int (nI sp), .int (nI ou)]))], [(nw, .inl (Y 0, 140, .inl (rowF ρ)))]] (fun r sg => r = nI 0 ∧ sg = [[(mo, .inr (5, [.int (nI 3), .ref tx, .int (nI sz), .ref nw, .ref tr, .ref dy, .int (nI ac), .ref kp, .ref ik, .ref td, .ref ch, .int (nI sp), .int (nI ou)]))], [(nw, .inl (Y 0, 140, .inl (rowF ρ)))]]) G Y := by
  refine x_ofI (by decide) (Nat.le_of_ble_eq_true rfl) (fun p e s m args below meth c A ls Q M hK hZ hw hl hret => ?_)
  obtain ⟨hx, hb, -⟩ := id M
  have hl : lv_has ls 5 [(0, .ref mo), (1, .int k), (2, .int u), (3, .int v)] := hl
  have := hI.n6
  have := hI.over
  have := hI.keep
  have := hI.stepp
  refine lv_aload_n hx hb dX6_offer_0 rfl (lv_at hl 0 rfl) ?_
  refine lv_iload_n hx hb dX6_offer_1 rfl (lv_at hl 1 rfl) ?_
  refine x_cSI (As := [.int k]) (k_X6_isKind l G Y k) cw_X6_83 [] M hK hZ hw hl.1 rfl (by decide) ⟨by decide, by decide⟩ ⟨Nat.zero_le _, Nat.zero_le _⟩ rfl rfl (Nat.le_of_ble_eq_true rfl) dX6_offer_2 (fun r sg h_1 H locs hw => ?_)
  obtain ⟨rfl, rfl⟩ := h_1
  have hw : xW G A s.heap [[(mo, .inr (5, [.int (nI rf), .ref tx, .int (nI sz), .ref nw, .ref tr, .ref dy, .int (nI ac), .ref kp, .ref ik, .ref td, .ref ch, .int (nI sp), .int (nI ou)]))], [(nw, .inl (Y 0, 140, .inl (rowF ρ)))]] H locs := hw
  refine x_bne M (tgt := 12) dX6_offer_5 (by decide) (fun c_2 => ?_) (fun c_2 => ?_)
  · refine lv_iload_n hx hb dX6_offer_12 rfl (lv_at hl 2 rfl) ?_
    refine lv_i2l (v := u.toInt64) hx hb dX6_offer_13 rfl ?_
    refine lv_lconst (v := 1) hx hb dX6_offer_14 (by decide) ?_
    refine lv_ldc2 (v := 9) hx hb M.2.2.2.1 (M.2.2.2.2 _ mw_1086) dX6_offer_15 ?_
    refine x_cSI (As := [.long u.toInt64, .long 1, .long 9]) (k_X6_in l G Y u.toInt64 1 9) cw_X6_45 [] M hK hZ hw hl.1 rfl (by decide) ⟨by decide, by decide⟩ ⟨Nat.zero_le _, Nat.zero_le _⟩ rfl rfl (Nat.le_of_ble_eq_true rfl) dX6_offer_18 (fun r sg h_3 H locs hw => ?_)
    obtain ⟨rfl, rfl⟩ := h_3
    have hw : xW G A s.heap [[(mo, .inr (5, [.int (nI rf), .ref tx, .int (nI sz), .ref nw, .ref tr, .ref dy, .int (nI ac), .ref kp, .ref ik, .ref td, .ref ch, .int (nI sp), .int (nI ou)]))], [(nw, .inl (Y 0, 140, .inl (rowF ρ)))]] H locs := hw
    refine x_topI (y := b2i (inZ u.toInt 1 9)) (by rw [Int32.toInt_toInt64]; rfl) ?_
    refine x_beq M (tgt := 36) dX6_offer_21 (by decide) (fun c_4 => ?_) (fun c_4 => ?_)
    · refine lv_iconst (v := (nI 2)) hx hb dX6_offer_36 (by decide) ?_
      refine lv_goto (tgt := 63) hx hb dX6_offer_37 (by decide) ?_
      exact absurd hwhy (by clear hret hw hl M hK hZ hx hb; unfold whyOffer; (first | rw [if_pos c_2] | rw [if_neg (Bool.eq_false_iff.mp c_2)] | rw [if_neg (nIn c_2)] | rw [if_pos (nOut c_2)] | rw [if_neg (by omega)] | rw [if_pos (by omega)]) <;> (first | rw [if_pos c_4] | rw [if_neg (Bool.eq_false_iff.mp c_4)] | rw [if_neg (nIn c_4)] | rw [if_pos (nOut c_4)] | rw [if_neg (by omega)] | rw [if_pos (by omega)]); first | decide | omega)
    refine lv_iload_n hx hb dX6_offer_24 rfl (lv_at hl 3 rfl) ?_
    refine lv_i2l (v := v.toInt64) hx hb dX6_offer_25 rfl ?_
    refine lv_lconst (v := 1) hx hb dX6_offer_26 (by decide) ?_
    refine lv_ldc2 (v := 9) hx hb M.2.2.2.1 (M.2.2.2.2 _ mw_1086) dX6_offer_27 ?_
    refine x_cSI (As := [.long v.toInt64, .long 1, .long 9]) (k_X6_in l G Y v.toInt64 1 9) cw_X6_45 [] M hK hZ hw hl.1 rfl (by decide) ⟨by decide, by decide⟩ ⟨Nat.zero_le _, Nat.zero_le _⟩ rfl rfl (Nat.le_of_ble_eq_true rfl) dX6_offer_30 (fun r sg h_5 H locs hw => ?_)
    obtain ⟨rfl, rfl⟩ := h_5
    have hw : xW G A s.heap [[(mo, .inr (5, [.int (nI rf), .ref tx, .int (nI sz), .ref nw, .ref tr, .ref dy, .int (nI ac), .ref kp, .ref ik, .ref td, .ref ch, .int (nI sp), .int (nI ou)]))], [(nw, .inl (Y 0, 140, .inl (rowF ρ)))]] H locs := hw
    refine x_topI (y := b2i (inZ v.toInt 1 9)) (by rw [Int32.toInt_toInt64]; rfl) ?_
    refine x_bne M (tgt := 40) dX6_offer_33 (by decide) (fun c_6 => ?_) (fun c_6 => ?_)
    · refine lv_aload_n hx hb dX6_offer_40 rfl (lv_at hl 0 rfl) ?_
      refine x_get M hK hw 0 0 rfl rfl ff_X6_13 rfl dX6_offer_41 ?_
      refine lv_iconst (v := (nI 0)) hx hb dX6_offer_44 (by decide) ?_
      refine x_iald M hK hw 1 0 rfl rfl (by decide) (by decide) dX6_offer_45 ?_
      refine x_topN (n := ρ 0) rfl ?_
      refine lv_if_gt (tgt := 58) hx hb dX6_offer_46 (by decide) (fun c_7 => ?_) (fun c_7 => ?_)
      · have c_7 := startI_gt c_7
        refine lv_iconst (v := (nI 3)) hx hb dX6_offer_58 (by decide) ?_
        refine lv_goto (tgt := 63) hx hb dX6_offer_59 (by decide) ?_
        refine x_cVI (As := [.int (nI 3)]) (k_X6_refused l G Y mo rf tx sz nw tr dy ac kp ik td ch sp ou 3 (by omega)) cw_X6_103 [0] 0 0 M hK hZ hw hl.1 rfl (by decide) rfl rfl rfl ⟨by decide, by decide⟩ ⟨Nat.zero_le _, Nat.zero_le _⟩ rfl rfl (Nat.le_of_ble_eq_true rfl) dX6_offer_63 (fun r sg h_8 H locs hw => ?_)
        obtain ⟨rfl, rfl⟩ := h_8
        have hw : xW G A s.heap [[(mo, .inr (5, [.int (nI 3), .ref tx, .int (nI sz), .ref nw, .ref tr, .ref dy, .int (nI ac), .ref kp, .ref ik, .ref td, .ref ch, .int (nI sp), .int (nI ou)]))], [(nw, .inl (Y 0, 140, .inl (rowF ρ)))]] H locs := hw
        refine x_beq M (tgt := 71) dX6_offer_66 (by decide) (fun c_9 => absurd c_9 (fun z => by first | exact absurd z (by decide) | (have := of_decide_eq_true z; omega) | (have := of_decide_eq_false z; omega))) (fun c_9 => ?_)
        refine lv_iconst (v := (nI 0)) hx hb dX6_offer_69 (by decide) ?_
        exact hret _ _ _ (nI 0) _ _ dX6_offer_70 hw rfl rfl ⟨rfl, rfl⟩
      have c_7 := startN_gt c_7
      refine lv_aload_n hx hb dX6_offer_49 rfl (lv_at hl 0 rfl) ?_
      refine x_get M hK hw 0 0 rfl rfl ff_X6_13 rfl dX6_offer_50 ?_
      refine lv_iconst (v := (nI 4)) hx hb dX6_offer_53 (by decide) ?_
      refine x_iald M hK hw 1 0 rfl rfl (by decide) (by decide) dX6_offer_54 ?_
      refine x_topN (n := ρ 4) rfl ?_
      have q_10 : ρ 4 ≤ 6 := hI.n6
      refine x_zle M (tgt := 62) (by omega) dX6_offer_55 (by decide) (fun c_11 => ?_) (fun c_11 => ?_)
      · refine lv_iconst (v := (nI 0)) hx hb dX6_offer_62 (by decide) ?_
        exact absurd hwhy (by clear hret hw hl M hK hZ hx hb; unfold whyOffer; (first | rw [if_pos c_2] | rw [if_neg (Bool.eq_false_iff.mp c_2)] | rw [if_neg (nIn c_2)] | rw [if_pos (nOut c_2)] | rw [if_neg (by omega)] | rw [if_pos (by omega)]) <;> (first | rw [if_pos c_4] | rw [if_neg (Bool.eq_false_iff.mp c_4)] | rw [if_neg (nIn c_4)] | rw [if_pos (nOut c_4)] | rw [if_neg (by omega)] | rw [if_pos (by omega)]) <;> (first | rw [if_pos c_6] | rw [if_neg (Bool.eq_false_iff.mp c_6)] | rw [if_neg (nIn c_6)] | rw [if_pos (nOut c_6)] | rw [if_neg (by omega)] | rw [if_pos (by omega)]) <;> (first | rw [if_pos c_7] | rw [if_neg (Bool.eq_false_iff.mp c_7)] | rw [if_neg (nIn c_7)] | rw [if_pos (nOut c_7)] | rw [if_neg (by omega)] | rw [if_pos (by omega)]) <;> (first | rw [if_pos c_11] | rw [if_neg (Bool.eq_false_iff.mp c_11)] | rw [if_neg (nIn c_11)] | rw [if_pos (nOut c_11)] | rw [if_neg (by omega)] | rw [if_pos (by omega)]); first | decide | omega)
      refine lv_iconst (v := (nI 3)) hx hb dX6_offer_58 (by decide) ?_
      refine lv_goto (tgt := 63) hx hb dX6_offer_59 (by decide) ?_
      refine x_cVI (As := [.int (nI 3)]) (k_X6_refused l G Y mo rf tx sz nw tr dy ac kp ik td ch sp ou 3 (by omega)) cw_X6_103 [0] 0 0 M hK hZ hw hl.1 rfl (by decide) rfl rfl rfl ⟨by decide, by decide⟩ ⟨Nat.zero_le _, Nat.zero_le _⟩ rfl rfl (Nat.le_of_ble_eq_true rfl) dX6_offer_63 (fun r sg h_12 H locs hw => ?_)
      obtain ⟨rfl, rfl⟩ := h_12
      have hw : xW G A s.heap [[(mo, .inr (5, [.int (nI 3), .ref tx, .int (nI sz), .ref nw, .ref tr, .ref dy, .int (nI ac), .ref kp, .ref ik, .ref td, .ref ch, .int (nI sp), .int (nI ou)]))], [(nw, .inl (Y 0, 140, .inl (rowF ρ)))]] H locs := hw
      refine x_beq M (tgt := 71) dX6_offer_66 (by decide) (fun c_13 => absurd c_13 (fun z => by first | exact absurd z (by decide) | (have := of_decide_eq_true z; omega) | (have := of_decide_eq_false z; omega))) (fun c_13 => ?_)
      refine lv_iconst (v := (nI 0)) hx hb dX6_offer_69 (by decide) ?_
      exact hret _ _ _ (nI 0) _ _ dX6_offer_70 hw rfl rfl ⟨rfl, rfl⟩
    refine lv_iconst (v := (nI 2)) hx hb dX6_offer_36 (by decide) ?_
    refine lv_goto (tgt := 63) hx hb dX6_offer_37 (by decide) ?_
    exact absurd hwhy (by clear hret hw hl M hK hZ hx hb; unfold whyOffer; (first | rw [if_pos c_2] | rw [if_neg (Bool.eq_false_iff.mp c_2)] | rw [if_neg (nIn c_2)] | rw [if_pos (nOut c_2)] | rw [if_neg (by omega)] | rw [if_pos (by omega)]) <;> (first | rw [if_pos c_4] | rw [if_neg (Bool.eq_false_iff.mp c_4)] | rw [if_neg (nIn c_4)] | rw [if_pos (nOut c_4)] | rw [if_neg (by omega)] | rw [if_pos (by omega)]) <;> (first | rw [if_pos c_6] | rw [if_neg (Bool.eq_false_iff.mp c_6)] | rw [if_neg (nIn c_6)] | rw [if_pos (nOut c_6)] | rw [if_neg (by omega)] | rw [if_pos (by omega)]); first | decide | omega)
  refine lv_iconst (v := (nI 1)) hx hb dX6_offer_8 (by decide) ?_
  refine lv_goto (tgt := 63) hx hb dX6_offer_9 (by decide) ?_
  exact absurd hwhy (by clear hret hw hl M hK hZ hx hb; unfold whyOffer; (first | rw [if_pos c_2] | rw [if_neg (Bool.eq_false_iff.mp c_2)] | rw [if_neg (nIn c_2)] | rw [if_pos (nOut c_2)] | rw [if_neg (by omega)] | rw [if_pos (by omega)]); first | decide | omega)
set_option maxHeartbeats 4000000 in
set_option maxRecDepth 20000 in
theorem f_X6_price_1 (l : Launch) (G : va_G) (Y : Nat → Nat) (mo rf tx sz nw tr dy ac kp ik td ch sp ou : Nat) (k v : Int32) (ρ : Nat → Nat) (hI : Inv ρ) (hwhy : whyPrice ρ k.toInt v.toInt = 1) : CtI l yX6_price cX6_price 4 .int 2 45 [.ref mo, .int k, .int v] [[(mo, .inr (5, [.int (nI rf), .ref tx, .int (nI sz), .ref nw, .ref tr, .ref dy, .int (nI ac), .ref kp, .ref ik, .ref td, .ref ch, .int (nI sp), .int (nI ou)]))], [(nw, .inl (Y 0, 140, .inl (rowF ρ)))]] (fun r sg => r = nI 0 ∧ sg = [[(mo, .inr (5, [.int (nI 1), .ref tx, .int (nI sz), .ref nw, .ref tr, .ref dy, .int (nI ac), .ref kp, .ref ik, .ref td, .ref ch, .int (nI sp), .int (nI ou)]))], [(nw, .inl (Y 0, 140, .inl (rowF ρ)))]]) G Y := by
  refine x_ofI (by decide) (Nat.le_of_ble_eq_true rfl) (fun p e s m args below meth c A ls Q M hK hZ hw hl hret => ?_)
  obtain ⟨hx, hb, -⟩ := id M
  have hl : lv_has ls 4 [(0, .ref mo), (1, .int k), (2, .int v)] := hl
  have := hI.n6
  have := hI.over
  have := hI.keep
  have := hI.stepp
  refine lv_aload_n hx hb dX6_price_0 rfl (lv_at hl 0 rfl) ?_
  refine lv_iload_n hx hb dX6_price_1 rfl (lv_at hl 1 rfl) ?_
  refine x_cSI (As := [.int k]) (k_X6_isKind l G Y k) cw_X6_83 [] M hK hZ hw hl.1 rfl (by decide) ⟨by decide, by decide⟩ ⟨Nat.zero_le _, Nat.zero_le _⟩ rfl rfl (Nat.le_of_ble_eq_true rfl) dX6_price_2 (fun r sg h_1 H locs hw => ?_)
  obtain ⟨rfl, rfl⟩ := h_1
  have hw : xW G A s.heap [[(mo, .inr (5, [.int (nI rf), .ref tx, .int (nI sz), .ref nw, .ref tr, .ref dy, .int (nI ac), .ref kp, .ref ik, .ref td, .ref ch, .int (nI sp), .int (nI ou)]))], [(nw, .inl (Y 0, 140, .inl (rowF ρ)))]] H locs := hw
  refine x_bne M (tgt := 12) dX6_price_5 (by decide) (fun c_2 => ?_) (fun c_2 => ?_)
  · refine lv_iload_n hx hb dX6_price_12 rfl (lv_at hl 2 rfl) ?_
    refine lv_i2l (v := v.toInt64) hx hb dX6_price_13 rfl ?_
    refine lv_lconst (v := 1) hx hb dX6_price_14 (by decide) ?_
    refine lv_ldc2 (v := 99999) hx hb M.2.2.2.1 (M.2.2.2.2 _ mw_1103) dX6_price_15 ?_
    refine x_cSI (As := [.long v.toInt64, .long 1, .long 99999]) (k_X6_in l G Y v.toInt64 1 99999) cw_X6_45 [] M hK hZ hw hl.1 rfl (by decide) ⟨by decide, by decide⟩ ⟨Nat.zero_le _, Nat.zero_le _⟩ rfl rfl (Nat.le_of_ble_eq_true rfl) dX6_price_18 (fun r sg h_3 H locs hw => ?_)
    obtain ⟨rfl, rfl⟩ := h_3
    have hw : xW G A s.heap [[(mo, .inr (5, [.int (nI rf), .ref tx, .int (nI sz), .ref nw, .ref tr, .ref dy, .int (nI ac), .ref kp, .ref ik, .ref td, .ref ch, .int (nI sp), .int (nI ou)]))], [(nw, .inl (Y 0, 140, .inl (rowF ρ)))]] H locs := hw
    refine x_topI (y := b2i (inZ v.toInt 1 99999)) (by rw [Int32.toInt_toInt64]; rfl) ?_
    refine x_bne M (tgt := 28) dX6_price_21 (by decide) (fun c_4 => ?_) (fun c_4 => ?_)
    · refine lv_aload_n hx hb dX6_price_28 rfl (lv_at hl 0 rfl) ?_
      refine x_get M hK hw 0 0 rfl rfl ff_X6_13 rfl dX6_price_29 ?_
      refine lv_iconst (v := (nI 0)) hx hb dX6_price_32 (by decide) ?_
      refine x_iald M hK hw 1 0 rfl rfl (by decide) (by decide) dX6_price_33 ?_
      refine x_topN (n := ρ 0) rfl ?_
      refine lv_if_le (tgt := 41) hx hb dX6_price_34 (by decide) (fun c_5 => ?_) (fun c_5 => ?_)
      · have c_5 := startI_le c_5
        refine lv_iconst (v := (nI 0)) hx hb dX6_price_41 (by decide) ?_
        exact absurd hwhy (by clear hret hw hl M hK hZ hx hb; unfold whyPrice; (first | rw [if_pos c_2] | rw [if_neg (Bool.eq_false_iff.mp c_2)] | rw [if_neg (nIn c_2)] | rw [if_pos (nOut c_2)] | rw [if_neg (by omega)] | rw [if_pos (by omega)]) <;> (first | rw [if_pos c_4] | rw [if_neg (Bool.eq_false_iff.mp c_4)] | rw [if_neg (nIn c_4)] | rw [if_pos (nOut c_4)] | rw [if_neg (by omega)] | rw [if_pos (by omega)]) <;> (first | rw [if_pos c_5] | rw [if_neg (Bool.eq_false_iff.mp c_5)] | rw [if_neg (nIn c_5)] | rw [if_pos (nOut c_5)] | rw [if_neg (by omega)] | rw [if_pos (by omega)]); first | decide | omega)
      have c_5 := startN_le c_5
      refine lv_iconst (v := (nI 3)) hx hb dX6_price_37 (by decide) ?_
      refine lv_goto (tgt := 42) hx hb dX6_price_38 (by decide) ?_
      exact absurd hwhy (by clear hret hw hl M hK hZ hx hb; unfold whyPrice; (first | rw [if_pos c_2] | rw [if_neg (Bool.eq_false_iff.mp c_2)] | rw [if_neg (nIn c_2)] | rw [if_pos (nOut c_2)] | rw [if_neg (by omega)] | rw [if_pos (by omega)]) <;> (first | rw [if_pos c_4] | rw [if_neg (Bool.eq_false_iff.mp c_4)] | rw [if_neg (nIn c_4)] | rw [if_pos (nOut c_4)] | rw [if_neg (by omega)] | rw [if_pos (by omega)]) <;> (first | rw [if_pos c_5] | rw [if_neg (Bool.eq_false_iff.mp c_5)] | rw [if_neg (nIn c_5)] | rw [if_pos (nOut c_5)] | rw [if_neg (by omega)] | rw [if_pos (by omega)]); first | decide | omega)
    refine lv_iconst (v := (nI 2)) hx hb dX6_price_24 (by decide) ?_
    refine lv_goto (tgt := 42) hx hb dX6_price_25 (by decide) ?_
    exact absurd hwhy (by clear hret hw hl M hK hZ hx hb; unfold whyPrice; (first | rw [if_pos c_2] | rw [if_neg (Bool.eq_false_iff.mp c_2)] | rw [if_neg (nIn c_2)] | rw [if_pos (nOut c_2)] | rw [if_neg (by omega)] | rw [if_pos (by omega)]) <;> (first | rw [if_pos c_4] | rw [if_neg (Bool.eq_false_iff.mp c_4)] | rw [if_neg (nIn c_4)] | rw [if_pos (nOut c_4)] | rw [if_neg (by omega)] | rw [if_pos (by omega)]); first | decide | omega)
  refine lv_iconst (v := (nI 1)) hx hb dX6_price_8 (by decide) ?_
  refine lv_goto (tgt := 42) hx hb dX6_price_9 (by decide) ?_
  refine x_cVI (As := [.int (nI 1)]) (k_X6_refused l G Y mo rf tx sz nw tr dy ac kp ik td ch sp ou 1 (by omega)) cw_X6_103 [0] 0 0 M hK hZ hw hl.1 rfl (by decide) rfl rfl rfl ⟨by decide, by decide⟩ ⟨Nat.zero_le _, Nat.zero_le _⟩ rfl rfl (Nat.le_of_ble_eq_true rfl) dX6_price_42 (fun r sg h_6 H locs hw => ?_)
  obtain ⟨rfl, rfl⟩ := h_6
  have hw : xW G A s.heap [[(mo, .inr (5, [.int (nI 1), .ref tx, .int (nI sz), .ref nw, .ref tr, .ref dy, .int (nI ac), .ref kp, .ref ik, .ref td, .ref ch, .int (nI sp), .int (nI ou)]))], [(nw, .inl (Y 0, 140, .inl (rowF ρ)))]] H locs := hw
  refine x_beq M (tgt := 50) dX6_price_45 (by decide) (fun c_7 => absurd c_7 (fun z => by first | exact absurd z (by decide) | (have := of_decide_eq_true z; omega) | (have := of_decide_eq_false z; omega))) (fun c_7 => ?_)
  refine lv_iconst (v := (nI 0)) hx hb dX6_price_48 (by decide) ?_
  exact hret _ _ _ (nI 0) _ _ dX6_price_49 hw rfl rfl ⟨rfl, rfl⟩
set_option maxHeartbeats 4000000 in
set_option maxRecDepth 20000 in
theorem f_X6_price_2 (l : Launch) (G : va_G) (Y : Nat → Nat) (mo rf tx sz nw tr dy ac kp ik td ch sp ou : Nat) (k v : Int32) (ρ : Nat → Nat) (hI : Inv ρ) (hwhy : whyPrice ρ k.toInt v.toInt = 2) : CtI l yX6_price cX6_price 4 .int 2 45 [.ref mo, .int k, .int v] [[(mo, .inr (5, [.int (nI rf), .ref tx, .int (nI sz), .ref nw, .ref tr, .ref dy, .int (nI ac), .ref kp, .ref ik, .ref td, .ref ch, .int (nI sp), .int (nI ou)]))], [(nw, .inl (Y 0, 140, .inl (rowF ρ)))]] (fun r sg => r = nI 0 ∧ sg = [[(mo, .inr (5, [.int (nI 2), .ref tx, .int (nI sz), .ref nw, .ref tr, .ref dy, .int (nI ac), .ref kp, .ref ik, .ref td, .ref ch, .int (nI sp), .int (nI ou)]))], [(nw, .inl (Y 0, 140, .inl (rowF ρ)))]]) G Y := by
  refine x_ofI (by decide) (Nat.le_of_ble_eq_true rfl) (fun p e s m args below meth c A ls Q M hK hZ hw hl hret => ?_)
  obtain ⟨hx, hb, -⟩ := id M
  have hl : lv_has ls 4 [(0, .ref mo), (1, .int k), (2, .int v)] := hl
  have := hI.n6
  have := hI.over
  have := hI.keep
  have := hI.stepp
  refine lv_aload_n hx hb dX6_price_0 rfl (lv_at hl 0 rfl) ?_
  refine lv_iload_n hx hb dX6_price_1 rfl (lv_at hl 1 rfl) ?_
  refine x_cSI (As := [.int k]) (k_X6_isKind l G Y k) cw_X6_83 [] M hK hZ hw hl.1 rfl (by decide) ⟨by decide, by decide⟩ ⟨Nat.zero_le _, Nat.zero_le _⟩ rfl rfl (Nat.le_of_ble_eq_true rfl) dX6_price_2 (fun r sg h_1 H locs hw => ?_)
  obtain ⟨rfl, rfl⟩ := h_1
  have hw : xW G A s.heap [[(mo, .inr (5, [.int (nI rf), .ref tx, .int (nI sz), .ref nw, .ref tr, .ref dy, .int (nI ac), .ref kp, .ref ik, .ref td, .ref ch, .int (nI sp), .int (nI ou)]))], [(nw, .inl (Y 0, 140, .inl (rowF ρ)))]] H locs := hw
  refine x_bne M (tgt := 12) dX6_price_5 (by decide) (fun c_2 => ?_) (fun c_2 => ?_)
  · refine lv_iload_n hx hb dX6_price_12 rfl (lv_at hl 2 rfl) ?_
    refine lv_i2l (v := v.toInt64) hx hb dX6_price_13 rfl ?_
    refine lv_lconst (v := 1) hx hb dX6_price_14 (by decide) ?_
    refine lv_ldc2 (v := 99999) hx hb M.2.2.2.1 (M.2.2.2.2 _ mw_1103) dX6_price_15 ?_
    refine x_cSI (As := [.long v.toInt64, .long 1, .long 99999]) (k_X6_in l G Y v.toInt64 1 99999) cw_X6_45 [] M hK hZ hw hl.1 rfl (by decide) ⟨by decide, by decide⟩ ⟨Nat.zero_le _, Nat.zero_le _⟩ rfl rfl (Nat.le_of_ble_eq_true rfl) dX6_price_18 (fun r sg h_3 H locs hw => ?_)
    obtain ⟨rfl, rfl⟩ := h_3
    have hw : xW G A s.heap [[(mo, .inr (5, [.int (nI rf), .ref tx, .int (nI sz), .ref nw, .ref tr, .ref dy, .int (nI ac), .ref kp, .ref ik, .ref td, .ref ch, .int (nI sp), .int (nI ou)]))], [(nw, .inl (Y 0, 140, .inl (rowF ρ)))]] H locs := hw
    refine x_topI (y := b2i (inZ v.toInt 1 99999)) (by rw [Int32.toInt_toInt64]; rfl) ?_
    refine x_bne M (tgt := 28) dX6_price_21 (by decide) (fun c_4 => ?_) (fun c_4 => ?_)
    · refine lv_aload_n hx hb dX6_price_28 rfl (lv_at hl 0 rfl) ?_
      refine x_get M hK hw 0 0 rfl rfl ff_X6_13 rfl dX6_price_29 ?_
      refine lv_iconst (v := (nI 0)) hx hb dX6_price_32 (by decide) ?_
      refine x_iald M hK hw 1 0 rfl rfl (by decide) (by decide) dX6_price_33 ?_
      refine x_topN (n := ρ 0) rfl ?_
      refine lv_if_le (tgt := 41) hx hb dX6_price_34 (by decide) (fun c_5 => ?_) (fun c_5 => ?_)
      · have c_5 := startI_le c_5
        refine lv_iconst (v := (nI 0)) hx hb dX6_price_41 (by decide) ?_
        exact absurd hwhy (by clear hret hw hl M hK hZ hx hb; unfold whyPrice; (first | rw [if_pos c_2] | rw [if_neg (Bool.eq_false_iff.mp c_2)] | rw [if_neg (nIn c_2)] | rw [if_pos (nOut c_2)] | rw [if_neg (by omega)] | rw [if_pos (by omega)]) <;> (first | rw [if_pos c_4] | rw [if_neg (Bool.eq_false_iff.mp c_4)] | rw [if_neg (nIn c_4)] | rw [if_pos (nOut c_4)] | rw [if_neg (by omega)] | rw [if_pos (by omega)]) <;> (first | rw [if_pos c_5] | rw [if_neg (Bool.eq_false_iff.mp c_5)] | rw [if_neg (nIn c_5)] | rw [if_pos (nOut c_5)] | rw [if_neg (by omega)] | rw [if_pos (by omega)]); first | decide | omega)
      have c_5 := startN_le c_5
      refine lv_iconst (v := (nI 3)) hx hb dX6_price_37 (by decide) ?_
      refine lv_goto (tgt := 42) hx hb dX6_price_38 (by decide) ?_
      exact absurd hwhy (by clear hret hw hl M hK hZ hx hb; unfold whyPrice; (first | rw [if_pos c_2] | rw [if_neg (Bool.eq_false_iff.mp c_2)] | rw [if_neg (nIn c_2)] | rw [if_pos (nOut c_2)] | rw [if_neg (by omega)] | rw [if_pos (by omega)]) <;> (first | rw [if_pos c_4] | rw [if_neg (Bool.eq_false_iff.mp c_4)] | rw [if_neg (nIn c_4)] | rw [if_pos (nOut c_4)] | rw [if_neg (by omega)] | rw [if_pos (by omega)]) <;> (first | rw [if_pos c_5] | rw [if_neg (Bool.eq_false_iff.mp c_5)] | rw [if_neg (nIn c_5)] | rw [if_pos (nOut c_5)] | rw [if_neg (by omega)] | rw [if_pos (by omega)]); first | decide | omega)
    refine lv_iconst (v := (nI 2)) hx hb dX6_price_24 (by decide) ?_
    refine lv_goto (tgt := 42) hx hb dX6_price_25 (by decide) ?_
    refine x_cVI (As := [.int (nI 2)]) (k_X6_refused l G Y mo rf tx sz nw tr dy ac kp ik td ch sp ou 2 (by omega)) cw_X6_103 [0] 0 0 M hK hZ hw hl.1 rfl (by decide) rfl rfl rfl ⟨by decide, by decide⟩ ⟨Nat.zero_le _, Nat.zero_le _⟩ rfl rfl (Nat.le_of_ble_eq_true rfl) dX6_price_42 (fun r sg h_6 H locs hw => ?_)
    obtain ⟨rfl, rfl⟩ := h_6
    have hw : xW G A s.heap [[(mo, .inr (5, [.int (nI 2), .ref tx, .int (nI sz), .ref nw, .ref tr, .ref dy, .int (nI ac), .ref kp, .ref ik, .ref td, .ref ch, .int (nI sp), .int (nI ou)]))], [(nw, .inl (Y 0, 140, .inl (rowF ρ)))]] H locs := hw
    refine x_beq M (tgt := 50) dX6_price_45 (by decide) (fun c_7 => absurd c_7 (fun z => by first | exact absurd z (by decide) | (have := of_decide_eq_true z; omega) | (have := of_decide_eq_false z; omega))) (fun c_7 => ?_)
    refine lv_iconst (v := (nI 0)) hx hb dX6_price_48 (by decide) ?_
    exact hret _ _ _ (nI 0) _ _ dX6_price_49 hw rfl rfl ⟨rfl, rfl⟩
  refine lv_iconst (v := (nI 1)) hx hb dX6_price_8 (by decide) ?_
  refine lv_goto (tgt := 42) hx hb dX6_price_9 (by decide) ?_
  exact absurd hwhy (by clear hret hw hl M hK hZ hx hb; unfold whyPrice; (first | rw [if_pos c_2] | rw [if_neg (Bool.eq_false_iff.mp c_2)] | rw [if_neg (nIn c_2)] | rw [if_pos (nOut c_2)] | rw [if_neg (by omega)] | rw [if_pos (by omega)]); first | decide | omega)
set_option maxHeartbeats 4000000 in
set_option maxRecDepth 20000 in
theorem f_X6_price_3 (l : Launch) (G : va_G) (Y : Nat → Nat) (mo rf tx sz nw tr dy ac kp ik td ch sp ou : Nat) (k v : Int32) (ρ : Nat → Nat) (hI : Inv ρ) (hwhy : whyPrice ρ k.toInt v.toInt = 3) : CtI l yX6_price cX6_price 4 .int 2 45 [.ref mo, .int k, .int v] [[(mo, .inr (5, [.int (nI rf), .ref tx, .int (nI sz), .ref nw, .ref tr, .ref dy, .int (nI ac), .ref kp, .ref ik, .ref td, .ref ch, .int (nI sp), .int (nI ou)]))], [(nw, .inl (Y 0, 140, .inl (rowF ρ)))]] (fun r sg => r = nI 0 ∧ sg = [[(mo, .inr (5, [.int (nI 3), .ref tx, .int (nI sz), .ref nw, .ref tr, .ref dy, .int (nI ac), .ref kp, .ref ik, .ref td, .ref ch, .int (nI sp), .int (nI ou)]))], [(nw, .inl (Y 0, 140, .inl (rowF ρ)))]]) G Y := by
  refine x_ofI (by decide) (Nat.le_of_ble_eq_true rfl) (fun p e s m args below meth c A ls Q M hK hZ hw hl hret => ?_)
  obtain ⟨hx, hb, -⟩ := id M
  have hl : lv_has ls 4 [(0, .ref mo), (1, .int k), (2, .int v)] := hl
  have := hI.n6
  have := hI.over
  have := hI.keep
  have := hI.stepp
  refine lv_aload_n hx hb dX6_price_0 rfl (lv_at hl 0 rfl) ?_
  refine lv_iload_n hx hb dX6_price_1 rfl (lv_at hl 1 rfl) ?_
  refine x_cSI (As := [.int k]) (k_X6_isKind l G Y k) cw_X6_83 [] M hK hZ hw hl.1 rfl (by decide) ⟨by decide, by decide⟩ ⟨Nat.zero_le _, Nat.zero_le _⟩ rfl rfl (Nat.le_of_ble_eq_true rfl) dX6_price_2 (fun r sg h_1 H locs hw => ?_)
  obtain ⟨rfl, rfl⟩ := h_1
  have hw : xW G A s.heap [[(mo, .inr (5, [.int (nI rf), .ref tx, .int (nI sz), .ref nw, .ref tr, .ref dy, .int (nI ac), .ref kp, .ref ik, .ref td, .ref ch, .int (nI sp), .int (nI ou)]))], [(nw, .inl (Y 0, 140, .inl (rowF ρ)))]] H locs := hw
  refine x_bne M (tgt := 12) dX6_price_5 (by decide) (fun c_2 => ?_) (fun c_2 => ?_)
  · refine lv_iload_n hx hb dX6_price_12 rfl (lv_at hl 2 rfl) ?_
    refine lv_i2l (v := v.toInt64) hx hb dX6_price_13 rfl ?_
    refine lv_lconst (v := 1) hx hb dX6_price_14 (by decide) ?_
    refine lv_ldc2 (v := 99999) hx hb M.2.2.2.1 (M.2.2.2.2 _ mw_1103) dX6_price_15 ?_
    refine x_cSI (As := [.long v.toInt64, .long 1, .long 99999]) (k_X6_in l G Y v.toInt64 1 99999) cw_X6_45 [] M hK hZ hw hl.1 rfl (by decide) ⟨by decide, by decide⟩ ⟨Nat.zero_le _, Nat.zero_le _⟩ rfl rfl (Nat.le_of_ble_eq_true rfl) dX6_price_18 (fun r sg h_3 H locs hw => ?_)
    obtain ⟨rfl, rfl⟩ := h_3
    have hw : xW G A s.heap [[(mo, .inr (5, [.int (nI rf), .ref tx, .int (nI sz), .ref nw, .ref tr, .ref dy, .int (nI ac), .ref kp, .ref ik, .ref td, .ref ch, .int (nI sp), .int (nI ou)]))], [(nw, .inl (Y 0, 140, .inl (rowF ρ)))]] H locs := hw
    refine x_topI (y := b2i (inZ v.toInt 1 99999)) (by rw [Int32.toInt_toInt64]; rfl) ?_
    refine x_bne M (tgt := 28) dX6_price_21 (by decide) (fun c_4 => ?_) (fun c_4 => ?_)
    · refine lv_aload_n hx hb dX6_price_28 rfl (lv_at hl 0 rfl) ?_
      refine x_get M hK hw 0 0 rfl rfl ff_X6_13 rfl dX6_price_29 ?_
      refine lv_iconst (v := (nI 0)) hx hb dX6_price_32 (by decide) ?_
      refine x_iald M hK hw 1 0 rfl rfl (by decide) (by decide) dX6_price_33 ?_
      refine x_topN (n := ρ 0) rfl ?_
      refine lv_if_le (tgt := 41) hx hb dX6_price_34 (by decide) (fun c_5 => ?_) (fun c_5 => ?_)
      · have c_5 := startI_le c_5
        refine lv_iconst (v := (nI 0)) hx hb dX6_price_41 (by decide) ?_
        exact absurd hwhy (by clear hret hw hl M hK hZ hx hb; unfold whyPrice; (first | rw [if_pos c_2] | rw [if_neg (Bool.eq_false_iff.mp c_2)] | rw [if_neg (nIn c_2)] | rw [if_pos (nOut c_2)] | rw [if_neg (by omega)] | rw [if_pos (by omega)]) <;> (first | rw [if_pos c_4] | rw [if_neg (Bool.eq_false_iff.mp c_4)] | rw [if_neg (nIn c_4)] | rw [if_pos (nOut c_4)] | rw [if_neg (by omega)] | rw [if_pos (by omega)]) <;> (first | rw [if_pos c_5] | rw [if_neg (Bool.eq_false_iff.mp c_5)] | rw [if_neg (nIn c_5)] | rw [if_pos (nOut c_5)] | rw [if_neg (by omega)] | rw [if_pos (by omega)]); first | decide | omega)
      have c_5 := startN_le c_5
      refine lv_iconst (v := (nI 3)) hx hb dX6_price_37 (by decide) ?_
      refine lv_goto (tgt := 42) hx hb dX6_price_38 (by decide) ?_
      refine x_cVI (As := [.int (nI 3)]) (k_X6_refused l G Y mo rf tx sz nw tr dy ac kp ik td ch sp ou 3 (by omega)) cw_X6_103 [0] 0 0 M hK hZ hw hl.1 rfl (by decide) rfl rfl rfl ⟨by decide, by decide⟩ ⟨Nat.zero_le _, Nat.zero_le _⟩ rfl rfl (Nat.le_of_ble_eq_true rfl) dX6_price_42 (fun r sg h_6 H locs hw => ?_)
      obtain ⟨rfl, rfl⟩ := h_6
      have hw : xW G A s.heap [[(mo, .inr (5, [.int (nI 3), .ref tx, .int (nI sz), .ref nw, .ref tr, .ref dy, .int (nI ac), .ref kp, .ref ik, .ref td, .ref ch, .int (nI sp), .int (nI ou)]))], [(nw, .inl (Y 0, 140, .inl (rowF ρ)))]] H locs := hw
      refine x_beq M (tgt := 50) dX6_price_45 (by decide) (fun c_7 => absurd c_7 (fun z => by first | exact absurd z (by decide) | (have := of_decide_eq_true z; omega) | (have := of_decide_eq_false z; omega))) (fun c_7 => ?_)
      refine lv_iconst (v := (nI 0)) hx hb dX6_price_48 (by decide) ?_
      exact hret _ _ _ (nI 0) _ _ dX6_price_49 hw rfl rfl ⟨rfl, rfl⟩
    refine lv_iconst (v := (nI 2)) hx hb dX6_price_24 (by decide) ?_
    refine lv_goto (tgt := 42) hx hb dX6_price_25 (by decide) ?_
    exact absurd hwhy (by clear hret hw hl M hK hZ hx hb; unfold whyPrice; (first | rw [if_pos c_2] | rw [if_neg (Bool.eq_false_iff.mp c_2)] | rw [if_neg (nIn c_2)] | rw [if_pos (nOut c_2)] | rw [if_neg (by omega)] | rw [if_pos (by omega)]) <;> (first | rw [if_pos c_4] | rw [if_neg (Bool.eq_false_iff.mp c_4)] | rw [if_neg (nIn c_4)] | rw [if_pos (nOut c_4)] | rw [if_neg (by omega)] | rw [if_pos (by omega)]); first | decide | omega)
  refine lv_iconst (v := (nI 1)) hx hb dX6_price_8 (by decide) ?_
  refine lv_goto (tgt := 42) hx hb dX6_price_9 (by decide) ?_
  exact absurd hwhy (by clear hret hw hl M hK hZ hx hb; unfold whyPrice; (first | rw [if_pos c_2] | rw [if_neg (Bool.eq_false_iff.mp c_2)] | rw [if_neg (nIn c_2)] | rw [if_pos (nOut c_2)] | rw [if_neg (by omega)] | rw [if_pos (by omega)]); first | decide | omega)
set_option maxHeartbeats 4000000 in
set_option maxRecDepth 20000 in
theorem f_X6_join_2 (l : Launch) (G : va_G) (Y : Nat → Nat) (mo rf tx sz nw tr dy ac kp ik td ch sp ou : Nat) (u v : Int32) (ρ : Nat → Nat) (hI : Inv ρ) (hwhy : whyJoin ρ u.toInt v.toInt = 2) : CtI l yX6_join cX6_join 3 .int 2 47 [.ref mo, .int u, .int v] [[(mo, .inr (5, [.int (nI rf), .ref tx, .int (nI sz), .ref nw, .ref tr, .ref dy, .int (nI ac), .ref kp, .ref ik, .ref td, .ref ch, .int (nI sp), .int (nI ou)]))], [(nw, .inl (Y 0, 140, .inl (rowF ρ)))]] (fun r sg => r = nI 0 ∧ sg = [[(mo, .inr (5, [.int (nI 1), .ref tx, .int (nI sz), .ref nw, .ref tr, .ref dy, .int (nI ac), .ref kp, .ref ik, .ref td, .ref ch, .int (nI sp), .int (nI ou)]))], [(nw, .inl (Y 0, 140, .inl (rowF ρ)))]]) G Y := by
  refine x_ofI (by decide) (Nat.le_of_ble_eq_true rfl) (fun p e s m args below meth c A ls Q M hK hZ hw hl hret => ?_)
  obtain ⟨hx, hb, -⟩ := id M
  have hl : lv_has ls 3 [(0, .ref mo), (1, .int u), (2, .int v)] := hl
  have := hI.n6
  have := hI.over
  have := hI.keep
  have := hI.stepp
  refine lv_aload_n hx hb dX6_join_0 rfl (lv_at hl 0 rfl) ?_
  refine lv_aload_n hx hb dX6_join_1 rfl (lv_at hl 0 rfl) ?_
  refine x_get M hK hw 0 0 rfl rfl ff_X6_13 rfl dX6_join_2 ?_
  refine lv_iload_n hx hb dX6_join_5 rfl (lv_at hl 1 rfl) ?_
  refine lv_iload_n hx hb dX6_join_6 rfl (lv_at hl 2 rfl) ?_
  refine x_cSI (As := [.ref nw, .int u, .int v]) (k_X6_whyNotJoin l G Y nw ρ u v (hI)) cw_X6_112 [1] M hK hZ hw hl.1 rfl (by decide) ⟨by decide, by decide⟩ ⟨Nat.zero_le _, Nat.zero_le _⟩ rfl rfl (Nat.le_of_ble_eq_true rfl) dX6_join_7 (fun r sg h_1 H locs hw => ?_)
  obtain ⟨rfl, rfl⟩ := h_1
  have hw : xW G A s.heap [[(mo, .inr (5, [.int (nI rf), .ref tx, .int (nI sz), .ref nw, .ref tr, .ref dy, .int (nI ac), .ref kp, .ref ik, .ref td, .ref ch, .int (nI sp), .int (nI ou)]))], [(nw, .inl (Y 0, 140, .inl (rowF ρ)))]] H locs := hw
  refine x_topN (n := (whyJoin ρ u.toInt v.toInt - 1)) (congrArg nI (by omega)) ?_
  refine x_topN (n := 1) (congrArg nI (by rw [hwhy])) ?_
  refine x_cVI (As := [.int (nI 1)]) (k_X6_refused l G Y mo rf tx sz nw tr dy ac kp ik td ch sp ou 1 (by omega)) cw_X6_103 [0] 0 0 M hK hZ hw hl.1 rfl (by decide) rfl rfl rfl ⟨by decide, by decide⟩ ⟨Nat.zero_le _, Nat.zero_le _⟩ rfl rfl (Nat.le_of_ble_eq_true rfl) dX6_join_10 (fun r sg h_2 H locs hw => ?_)
  obtain ⟨rfl, rfl⟩ := h_2
  have hw : xW G A s.heap [[(mo, .inr (5, [.int (nI 1), .ref tx, .int (nI sz), .ref nw, .ref tr, .ref dy, .int (nI ac), .ref kp, .ref ik, .ref td, .ref ch, .int (nI sp), .int (nI ou)]))], [(nw, .inl (Y 0, 140, .inl (rowF ρ)))]] H locs := hw
  refine x_beq M (tgt := 18) dX6_join_13 (by decide) (fun c_3 => absurd c_3 (fun z => by first | exact absurd z (by decide) | (have := of_decide_eq_true z; omega) | (have := of_decide_eq_false z; omega))) (fun c_3 => ?_)
  refine lv_iconst (v := (nI 0)) hx hb dX6_join_16 (by decide) ?_
  exact hret _ _ _ (nI 0) _ _ dX6_join_17 hw rfl rfl ⟨rfl, rfl⟩
set_option maxHeartbeats 4000000 in
set_option maxRecDepth 20000 in
theorem f_X6_join_3 (l : Launch) (G : va_G) (Y : Nat → Nat) (mo rf tx sz nw tr dy ac kp ik td ch sp ou : Nat) (u v : Int32) (ρ : Nat → Nat) (hI : Inv ρ) (hwhy : whyJoin ρ u.toInt v.toInt = 3) : CtI l yX6_join cX6_join 3 .int 2 47 [.ref mo, .int u, .int v] [[(mo, .inr (5, [.int (nI rf), .ref tx, .int (nI sz), .ref nw, .ref tr, .ref dy, .int (nI ac), .ref kp, .ref ik, .ref td, .ref ch, .int (nI sp), .int (nI ou)]))], [(nw, .inl (Y 0, 140, .inl (rowF ρ)))]] (fun r sg => r = nI 0 ∧ sg = [[(mo, .inr (5, [.int (nI 2), .ref tx, .int (nI sz), .ref nw, .ref tr, .ref dy, .int (nI ac), .ref kp, .ref ik, .ref td, .ref ch, .int (nI sp), .int (nI ou)]))], [(nw, .inl (Y 0, 140, .inl (rowF ρ)))]]) G Y := by
  refine x_ofI (by decide) (Nat.le_of_ble_eq_true rfl) (fun p e s m args below meth c A ls Q M hK hZ hw hl hret => ?_)
  obtain ⟨hx, hb, -⟩ := id M
  have hl : lv_has ls 3 [(0, .ref mo), (1, .int u), (2, .int v)] := hl
  have := hI.n6
  have := hI.over
  have := hI.keep
  have := hI.stepp
  refine lv_aload_n hx hb dX6_join_0 rfl (lv_at hl 0 rfl) ?_
  refine lv_aload_n hx hb dX6_join_1 rfl (lv_at hl 0 rfl) ?_
  refine x_get M hK hw 0 0 rfl rfl ff_X6_13 rfl dX6_join_2 ?_
  refine lv_iload_n hx hb dX6_join_5 rfl (lv_at hl 1 rfl) ?_
  refine lv_iload_n hx hb dX6_join_6 rfl (lv_at hl 2 rfl) ?_
  refine x_cSI (As := [.ref nw, .int u, .int v]) (k_X6_whyNotJoin l G Y nw ρ u v (hI)) cw_X6_112 [1] M hK hZ hw hl.1 rfl (by decide) ⟨by decide, by decide⟩ ⟨Nat.zero_le _, Nat.zero_le _⟩ rfl rfl (Nat.le_of_ble_eq_true rfl) dX6_join_7 (fun r sg h_1 H locs hw => ?_)
  obtain ⟨rfl, rfl⟩ := h_1
  have hw : xW G A s.heap [[(mo, .inr (5, [.int (nI rf), .ref tx, .int (nI sz), .ref nw, .ref tr, .ref dy, .int (nI ac), .ref kp, .ref ik, .ref td, .ref ch, .int (nI sp), .int (nI ou)]))], [(nw, .inl (Y 0, 140, .inl (rowF ρ)))]] H locs := hw
  refine x_topN (n := (whyJoin ρ u.toInt v.toInt - 1)) (congrArg nI (by omega)) ?_
  refine x_topN (n := 2) (congrArg nI (by rw [hwhy])) ?_
  refine x_cVI (As := [.int (nI 2)]) (k_X6_refused l G Y mo rf tx sz nw tr dy ac kp ik td ch sp ou 2 (by omega)) cw_X6_103 [0] 0 0 M hK hZ hw hl.1 rfl (by decide) rfl rfl rfl ⟨by decide, by decide⟩ ⟨Nat.zero_le _, Nat.zero_le _⟩ rfl rfl (Nat.le_of_ble_eq_true rfl) dX6_join_10 (fun r sg h_2 H locs hw => ?_)
  obtain ⟨rfl, rfl⟩ := h_2
  have hw : xW G A s.heap [[(mo, .inr (5, [.int (nI 2), .ref tx, .int (nI sz), .ref nw, .ref tr, .ref dy, .int (nI ac), .ref kp, .ref ik, .ref td, .ref ch, .int (nI sp), .int (nI ou)]))], [(nw, .inl (Y 0, 140, .inl (rowF ρ)))]] H locs := hw
  refine x_beq M (tgt := 18) dX6_join_13 (by decide) (fun c_3 => absurd c_3 (fun z => by first | exact absurd z (by decide) | (have := of_decide_eq_true z; omega) | (have := of_decide_eq_false z; omega))) (fun c_3 => ?_)
  refine lv_iconst (v := (nI 0)) hx hb dX6_join_16 (by decide) ?_
  exact hret _ _ _ (nI 0) _ _ dX6_join_17 hw rfl rfl ⟨rfl, rfl⟩
set_option maxHeartbeats 4000000 in
set_option maxRecDepth 20000 in
theorem f_X6_value_1 (l : Launch) (G : va_G) (Y : Nat → Nat) (mo rf tx sz nw tr dy ac kp ik td ch sp ou : Nat) (b k v : Int32) (ρ : Nat → Nat) (hI : Inv ρ) (hwhy : whyValue ρ b.toInt k.toInt v.toInt = 1) : CtI l yX6_value cX6_value 4 .int 3 69 [.ref mo, .int b, .int k, .int v] [[(mo, .inr (5, [.int (nI rf), .ref tx, .int (nI sz), .ref nw, .ref tr, .ref dy, .int (nI ac), .ref kp, .ref ik, .ref td, .ref ch, .int (nI sp), .int (nI ou)]))], [(nw, .inl (Y 0, 140, .inl (rowF ρ)))]] (fun r sg => r = nI 0 ∧ sg = [[(mo, .inr (5, [.int (nI 1), .ref tx, .int (nI sz), .ref nw, .ref tr, .ref dy, .int (nI ac), .ref kp, .ref ik, .ref td, .ref ch, .int (nI sp), .int (nI ou)]))], [(nw, .inl (Y 0, 140, .inl (rowF ρ)))]]) G Y := by
  refine x_ofI (by decide) (Nat.le_of_ble_eq_true rfl) (fun p e s m args below meth c A ls Q M hK hZ hw hl hret => ?_)
  obtain ⟨hx, hb, -⟩ := id M
  have hl : lv_has ls 4 [(0, .ref mo), (1, .int b), (2, .int k), (3, .int v)] := hl
  have := hI.n6
  have := hI.over
  have := hI.keep
  have := hI.stepp
  refine lv_aload_n hx hb dX6_value_0 rfl (lv_at hl 0 rfl) ?_
  refine lv_aload_n hx hb dX6_value_1 rfl (lv_at hl 0 rfl) ?_
  refine x_get M hK hw 0 0 rfl rfl ff_X6_13 rfl dX6_value_2 ?_
  refine lv_iload_n hx hb dX6_value_5 rfl (lv_at hl 1 rfl) ?_
  refine lv_iload_n hx hb dX6_value_6 rfl (lv_at hl 2 rfl) ?_
  refine lv_iload_n hx hb dX6_value_7 rfl (lv_at hl 3 rfl) ?_
  refine x_cSI (As := [.ref nw, .int b, .int k, .int v]) (k_X6_whyNotValue l G Y nw ρ b k v (hI)) cw_X6_119 [1] M hK hZ hw hl.1 rfl (by decide) ⟨by decide, by decide⟩ ⟨Nat.zero_le _, Nat.zero_le _⟩ rfl rfl (Nat.le_of_ble_eq_true rfl) dX6_value_8 (fun r sg h_1 H locs hw => ?_)
  obtain ⟨rfl, rfl⟩ := h_1
  have hw : xW G A s.heap [[(mo, .inr (5, [.int (nI rf), .ref tx, .int (nI sz), .ref nw, .ref tr, .ref dy, .int (nI ac), .ref kp, .ref ik, .ref td, .ref ch, .int (nI sp), .int (nI ou)]))], [(nw, .inl (Y 0, 140, .inl (rowF ρ)))]] H locs := hw
  refine x_topN (n := 1) (congrArg nI (by rw [hwhy])) ?_
  refine x_cVI (As := [.int (nI 1)]) (k_X6_refused l G Y mo rf tx sz nw tr dy ac kp ik td ch sp ou 1 (by omega)) cw_X6_103 [0] 0 0 M hK hZ hw hl.1 rfl (by decide) rfl rfl rfl ⟨by decide, by decide⟩ ⟨Nat.zero_le _, Nat.zero_le _⟩ rfl rfl (Nat.le_of_ble_eq_true rfl) dX6_value_11 (fun r sg h_2 H locs hw => ?_)
  obtain ⟨rfl, rfl⟩ := h_2
  have hw : xW G A s.heap [[(mo, .inr (5, [.int (nI 1), .ref tx, .int (nI sz), .ref nw, .ref tr, .ref dy, .int (nI ac), .ref kp, .ref ik, .ref td, .ref ch, .int (nI sp), .int (nI ou)]))], [(nw, .inl (Y 0, 140, .inl (rowF ρ)))]] H locs := hw
  refine x_beq M (tgt := 19) dX6_value_14 (by decide) (fun c_3 => absurd c_3 (fun z => by first | exact absurd z (by decide) | (have := of_decide_eq_true z; omega) | (have := of_decide_eq_false z; omega))) (fun c_3 => ?_)
  refine lv_iconst (v := (nI 0)) hx hb dX6_value_17 (by decide) ?_
  exact hret _ _ _ (nI 0) _ _ dX6_value_18 hw rfl rfl ⟨rfl, rfl⟩
set_option maxHeartbeats 4000000 in
set_option maxRecDepth 20000 in
theorem f_X6_value_2 (l : Launch) (G : va_G) (Y : Nat → Nat) (mo rf tx sz nw tr dy ac kp ik td ch sp ou : Nat) (b k v : Int32) (ρ : Nat → Nat) (hI : Inv ρ) (hwhy : whyValue ρ b.toInt k.toInt v.toInt = 2) : CtI l yX6_value cX6_value 4 .int 3 69 [.ref mo, .int b, .int k, .int v] [[(mo, .inr (5, [.int (nI rf), .ref tx, .int (nI sz), .ref nw, .ref tr, .ref dy, .int (nI ac), .ref kp, .ref ik, .ref td, .ref ch, .int (nI sp), .int (nI ou)]))], [(nw, .inl (Y 0, 140, .inl (rowF ρ)))]] (fun r sg => r = nI 0 ∧ sg = [[(mo, .inr (5, [.int (nI 2), .ref tx, .int (nI sz), .ref nw, .ref tr, .ref dy, .int (nI ac), .ref kp, .ref ik, .ref td, .ref ch, .int (nI sp), .int (nI ou)]))], [(nw, .inl (Y 0, 140, .inl (rowF ρ)))]]) G Y := by
  refine x_ofI (by decide) (Nat.le_of_ble_eq_true rfl) (fun p e s m args below meth c A ls Q M hK hZ hw hl hret => ?_)
  obtain ⟨hx, hb, -⟩ := id M
  have hl : lv_has ls 4 [(0, .ref mo), (1, .int b), (2, .int k), (3, .int v)] := hl
  have := hI.n6
  have := hI.over
  have := hI.keep
  have := hI.stepp
  refine lv_aload_n hx hb dX6_value_0 rfl (lv_at hl 0 rfl) ?_
  refine lv_aload_n hx hb dX6_value_1 rfl (lv_at hl 0 rfl) ?_
  refine x_get M hK hw 0 0 rfl rfl ff_X6_13 rfl dX6_value_2 ?_
  refine lv_iload_n hx hb dX6_value_5 rfl (lv_at hl 1 rfl) ?_
  refine lv_iload_n hx hb dX6_value_6 rfl (lv_at hl 2 rfl) ?_
  refine lv_iload_n hx hb dX6_value_7 rfl (lv_at hl 3 rfl) ?_
  refine x_cSI (As := [.ref nw, .int b, .int k, .int v]) (k_X6_whyNotValue l G Y nw ρ b k v (hI)) cw_X6_119 [1] M hK hZ hw hl.1 rfl (by decide) ⟨by decide, by decide⟩ ⟨Nat.zero_le _, Nat.zero_le _⟩ rfl rfl (Nat.le_of_ble_eq_true rfl) dX6_value_8 (fun r sg h_1 H locs hw => ?_)
  obtain ⟨rfl, rfl⟩ := h_1
  have hw : xW G A s.heap [[(mo, .inr (5, [.int (nI rf), .ref tx, .int (nI sz), .ref nw, .ref tr, .ref dy, .int (nI ac), .ref kp, .ref ik, .ref td, .ref ch, .int (nI sp), .int (nI ou)]))], [(nw, .inl (Y 0, 140, .inl (rowF ρ)))]] H locs := hw
  refine x_topN (n := 2) (congrArg nI (by rw [hwhy])) ?_
  refine x_cVI (As := [.int (nI 2)]) (k_X6_refused l G Y mo rf tx sz nw tr dy ac kp ik td ch sp ou 2 (by omega)) cw_X6_103 [0] 0 0 M hK hZ hw hl.1 rfl (by decide) rfl rfl rfl ⟨by decide, by decide⟩ ⟨Nat.zero_le _, Nat.zero_le _⟩ rfl rfl (Nat.le_of_ble_eq_true rfl) dX6_value_11 (fun r sg h_2 H locs hw => ?_)
  obtain ⟨rfl, rfl⟩ := h_2
  have hw : xW G A s.heap [[(mo, .inr (5, [.int (nI 2), .ref tx, .int (nI sz), .ref nw, .ref tr, .ref dy, .int (nI ac), .ref kp, .ref ik, .ref td, .ref ch, .int (nI sp), .int (nI ou)]))], [(nw, .inl (Y 0, 140, .inl (rowF ρ)))]] H locs := hw
  refine x_beq M (tgt := 19) dX6_value_14 (by decide) (fun c_3 => absurd c_3 (fun z => by first | exact absurd z (by decide) | (have := of_decide_eq_true z; omega) | (have := of_decide_eq_false z; omega))) (fun c_3 => ?_)
  refine lv_iconst (v := (nI 0)) hx hb dX6_value_17 (by decide) ?_
  exact hret _ _ _ (nI 0) _ _ dX6_value_18 hw rfl rfl ⟨rfl, rfl⟩
set_option maxHeartbeats 4000000 in
set_option maxRecDepth 20000 in
theorem f_X6_ask_1 (l : Launch) (G : va_G) (Y : Nat → Nat) (mo rf tx sz nw tr dy ac kp ik td ch sp ou : Nat) (b k n : Int32) (ρ : Nat → Nat) (hI : Inv ρ) (hwhy : whyAsk ρ b.toInt k.toInt n.toInt = 1) : CtI l yX6_ask cX6_ask 4 .int 3 70 [.ref mo, .int b, .int k, .int n] [[(mo, .inr (5, [.int (nI rf), .ref tx, .int (nI sz), .ref nw, .ref tr, .ref dy, .int (nI ac), .ref kp, .ref ik, .ref td, .ref ch, .int (nI sp), .int (nI ou)]))], [(nw, .inl (Y 0, 140, .inl (rowF ρ)))]] (fun r sg => r = nI 0 ∧ sg = [[(mo, .inr (5, [.int (nI 1), .ref tx, .int (nI sz), .ref nw, .ref tr, .ref dy, .int (nI ac), .ref kp, .ref ik, .ref td, .ref ch, .int (nI sp), .int (nI ou)]))], [(nw, .inl (Y 0, 140, .inl (rowF ρ)))]]) G Y := by
  refine x_ofI (by decide) (Nat.le_of_ble_eq_true rfl) (fun p e s m args below meth c A ls Q M hK hZ hw hl hret => ?_)
  obtain ⟨hx, hb, -⟩ := id M
  have hl : lv_has ls 4 [(0, .ref mo), (1, .int b), (2, .int k), (3, .int n)] := hl
  have := hI.n6
  have := hI.over
  have := hI.keep
  have := hI.stepp
  refine lv_aload_n hx hb dX6_ask_0 rfl (lv_at hl 0 rfl) ?_
  refine lv_aload_n hx hb dX6_ask_1 rfl (lv_at hl 0 rfl) ?_
  refine x_get M hK hw 0 0 rfl rfl ff_X6_13 rfl dX6_ask_2 ?_
  refine lv_iload_n hx hb dX6_ask_5 rfl (lv_at hl 1 rfl) ?_
  refine lv_iload_n hx hb dX6_ask_6 rfl (lv_at hl 2 rfl) ?_
  refine lv_iload_n hx hb dX6_ask_7 rfl (lv_at hl 3 rfl) ?_
  refine x_cSI (As := [.ref nw, .int b, .int k, .int n]) (k_X6_whyNotAsk l G Y nw ρ b k n (hI)) cw_X6_125 [1] M hK hZ hw hl.1 rfl (by decide) ⟨by decide, by decide⟩ ⟨Nat.zero_le _, Nat.zero_le _⟩ rfl rfl (Nat.le_of_ble_eq_true rfl) dX6_ask_8 (fun r sg h_1 H locs hw => ?_)
  obtain ⟨rfl, rfl⟩ := h_1
  have hw : xW G A s.heap [[(mo, .inr (5, [.int (nI rf), .ref tx, .int (nI sz), .ref nw, .ref tr, .ref dy, .int (nI ac), .ref kp, .ref ik, .ref td, .ref ch, .int (nI sp), .int (nI ou)]))], [(nw, .inl (Y 0, 140, .inl (rowF ρ)))]] H locs := hw
  refine x_topN (n := 1) (congrArg nI (by rw [hwhy])) ?_
  refine x_cVI (As := [.int (nI 1)]) (k_X6_refused l G Y mo rf tx sz nw tr dy ac kp ik td ch sp ou 1 (by omega)) cw_X6_103 [0] 0 0 M hK hZ hw hl.1 rfl (by decide) rfl rfl rfl ⟨by decide, by decide⟩ ⟨Nat.zero_le _, Nat.zero_le _⟩ rfl rfl (Nat.le_of_ble_eq_true rfl) dX6_ask_11 (fun r sg h_2 H locs hw => ?_)
  obtain ⟨rfl, rfl⟩ := h_2
  have hw : xW G A s.heap [[(mo, .inr (5, [.int (nI 1), .ref tx, .int (nI sz), .ref nw, .ref tr, .ref dy, .int (nI ac), .ref kp, .ref ik, .ref td, .ref ch, .int (nI sp), .int (nI ou)]))], [(nw, .inl (Y 0, 140, .inl (rowF ρ)))]] H locs := hw
  refine x_beq M (tgt := 19) dX6_ask_14 (by decide) (fun c_3 => absurd c_3 (fun z => by first | exact absurd z (by decide) | (have := of_decide_eq_true z; omega) | (have := of_decide_eq_false z; omega))) (fun c_3 => ?_)
  refine lv_iconst (v := (nI 0)) hx hb dX6_ask_17 (by decide) ?_
  exact hret _ _ _ (nI 0) _ _ dX6_ask_18 hw rfl rfl ⟨rfl, rfl⟩
set_option maxHeartbeats 4000000 in
set_option maxRecDepth 20000 in
theorem f_X6_ask_2 (l : Launch) (G : va_G) (Y : Nat → Nat) (mo rf tx sz nw tr dy ac kp ik td ch sp ou : Nat) (b k n : Int32) (ρ : Nat → Nat) (hI : Inv ρ) (hwhy : whyAsk ρ b.toInt k.toInt n.toInt = 2) : CtI l yX6_ask cX6_ask 4 .int 3 70 [.ref mo, .int b, .int k, .int n] [[(mo, .inr (5, [.int (nI rf), .ref tx, .int (nI sz), .ref nw, .ref tr, .ref dy, .int (nI ac), .ref kp, .ref ik, .ref td, .ref ch, .int (nI sp), .int (nI ou)]))], [(nw, .inl (Y 0, 140, .inl (rowF ρ)))]] (fun r sg => r = nI 0 ∧ sg = [[(mo, .inr (5, [.int (nI 2), .ref tx, .int (nI sz), .ref nw, .ref tr, .ref dy, .int (nI ac), .ref kp, .ref ik, .ref td, .ref ch, .int (nI sp), .int (nI ou)]))], [(nw, .inl (Y 0, 140, .inl (rowF ρ)))]]) G Y := by
  refine x_ofI (by decide) (Nat.le_of_ble_eq_true rfl) (fun p e s m args below meth c A ls Q M hK hZ hw hl hret => ?_)
  obtain ⟨hx, hb, -⟩ := id M
  have hl : lv_has ls 4 [(0, .ref mo), (1, .int b), (2, .int k), (3, .int n)] := hl
  have := hI.n6
  have := hI.over
  have := hI.keep
  have := hI.stepp
  refine lv_aload_n hx hb dX6_ask_0 rfl (lv_at hl 0 rfl) ?_
  refine lv_aload_n hx hb dX6_ask_1 rfl (lv_at hl 0 rfl) ?_
  refine x_get M hK hw 0 0 rfl rfl ff_X6_13 rfl dX6_ask_2 ?_
  refine lv_iload_n hx hb dX6_ask_5 rfl (lv_at hl 1 rfl) ?_
  refine lv_iload_n hx hb dX6_ask_6 rfl (lv_at hl 2 rfl) ?_
  refine lv_iload_n hx hb dX6_ask_7 rfl (lv_at hl 3 rfl) ?_
  refine x_cSI (As := [.ref nw, .int b, .int k, .int n]) (k_X6_whyNotAsk l G Y nw ρ b k n (hI)) cw_X6_125 [1] M hK hZ hw hl.1 rfl (by decide) ⟨by decide, by decide⟩ ⟨Nat.zero_le _, Nat.zero_le _⟩ rfl rfl (Nat.le_of_ble_eq_true rfl) dX6_ask_8 (fun r sg h_1 H locs hw => ?_)
  obtain ⟨rfl, rfl⟩ := h_1
  have hw : xW G A s.heap [[(mo, .inr (5, [.int (nI rf), .ref tx, .int (nI sz), .ref nw, .ref tr, .ref dy, .int (nI ac), .ref kp, .ref ik, .ref td, .ref ch, .int (nI sp), .int (nI ou)]))], [(nw, .inl (Y 0, 140, .inl (rowF ρ)))]] H locs := hw
  refine x_topN (n := 2) (congrArg nI (by rw [hwhy])) ?_
  refine x_cVI (As := [.int (nI 2)]) (k_X6_refused l G Y mo rf tx sz nw tr dy ac kp ik td ch sp ou 2 (by omega)) cw_X6_103 [0] 0 0 M hK hZ hw hl.1 rfl (by decide) rfl rfl rfl ⟨by decide, by decide⟩ ⟨Nat.zero_le _, Nat.zero_le _⟩ rfl rfl (Nat.le_of_ble_eq_true rfl) dX6_ask_11 (fun r sg h_2 H locs hw => ?_)
  obtain ⟨rfl, rfl⟩ := h_2
  have hw : xW G A s.heap [[(mo, .inr (5, [.int (nI 2), .ref tx, .int (nI sz), .ref nw, .ref tr, .ref dy, .int (nI ac), .ref kp, .ref ik, .ref td, .ref ch, .int (nI sp), .int (nI ou)]))], [(nw, .inl (Y 0, 140, .inl (rowF ρ)))]] H locs := hw
  refine x_beq M (tgt := 19) dX6_ask_14 (by decide) (fun c_3 => absurd c_3 (fun z => by first | exact absurd z (by decide) | (have := of_decide_eq_true z; omega) | (have := of_decide_eq_false z; omega))) (fun c_3 => ?_)
  refine lv_iconst (v := (nI 0)) hx hb dX6_ask_17 (by decide) ?_
  exact hret _ _ _ (nI 0) _ _ dX6_ask_18 hw rfl rfl ⟨rfl, rfl⟩
set_option maxHeartbeats 4000000 in
set_option maxRecDepth 20000 in
theorem f_X6_ask_3 (l : Launch) (G : va_G) (Y : Nat → Nat) (mo rf tx sz nw tr dy ac kp ik td ch sp ou : Nat) (b k n : Int32) (ρ : Nat → Nat) (hI : Inv ρ) (hwhy : whyAsk ρ b.toInt k.toInt n.toInt = 3) : CtI l yX6_ask cX6_ask 4 .int 3 70 [.ref mo, .int b, .int k, .int n] [[(mo, .inr (5, [.int (nI rf), .ref tx, .int (nI sz), .ref nw, .ref tr, .ref dy, .int (nI ac), .ref kp, .ref ik, .ref td, .ref ch, .int (nI sp), .int (nI ou)]))], [(nw, .inl (Y 0, 140, .inl (rowF ρ)))]] (fun r sg => r = nI 0 ∧ sg = [[(mo, .inr (5, [.int (nI 3), .ref tx, .int (nI sz), .ref nw, .ref tr, .ref dy, .int (nI ac), .ref kp, .ref ik, .ref td, .ref ch, .int (nI sp), .int (nI ou)]))], [(nw, .inl (Y 0, 140, .inl (rowF ρ)))]]) G Y := by
  refine x_ofI (by decide) (Nat.le_of_ble_eq_true rfl) (fun p e s m args below meth c A ls Q M hK hZ hw hl hret => ?_)
  obtain ⟨hx, hb, -⟩ := id M
  have hl : lv_has ls 4 [(0, .ref mo), (1, .int b), (2, .int k), (3, .int n)] := hl
  have := hI.n6
  have := hI.over
  have := hI.keep
  have := hI.stepp
  refine lv_aload_n hx hb dX6_ask_0 rfl (lv_at hl 0 rfl) ?_
  refine lv_aload_n hx hb dX6_ask_1 rfl (lv_at hl 0 rfl) ?_
  refine x_get M hK hw 0 0 rfl rfl ff_X6_13 rfl dX6_ask_2 ?_
  refine lv_iload_n hx hb dX6_ask_5 rfl (lv_at hl 1 rfl) ?_
  refine lv_iload_n hx hb dX6_ask_6 rfl (lv_at hl 2 rfl) ?_
  refine lv_iload_n hx hb dX6_ask_7 rfl (lv_at hl 3 rfl) ?_
  refine x_cSI (As := [.ref nw, .int b, .int k, .int n]) (k_X6_whyNotAsk l G Y nw ρ b k n (hI)) cw_X6_125 [1] M hK hZ hw hl.1 rfl (by decide) ⟨by decide, by decide⟩ ⟨Nat.zero_le _, Nat.zero_le _⟩ rfl rfl (Nat.le_of_ble_eq_true rfl) dX6_ask_8 (fun r sg h_1 H locs hw => ?_)
  obtain ⟨rfl, rfl⟩ := h_1
  have hw : xW G A s.heap [[(mo, .inr (5, [.int (nI rf), .ref tx, .int (nI sz), .ref nw, .ref tr, .ref dy, .int (nI ac), .ref kp, .ref ik, .ref td, .ref ch, .int (nI sp), .int (nI ou)]))], [(nw, .inl (Y 0, 140, .inl (rowF ρ)))]] H locs := hw
  refine x_topN (n := 3) (congrArg nI (by rw [hwhy])) ?_
  refine x_cVI (As := [.int (nI 3)]) (k_X6_refused l G Y mo rf tx sz nw tr dy ac kp ik td ch sp ou 3 (by omega)) cw_X6_103 [0] 0 0 M hK hZ hw hl.1 rfl (by decide) rfl rfl rfl ⟨by decide, by decide⟩ ⟨Nat.zero_le _, Nat.zero_le _⟩ rfl rfl (Nat.le_of_ble_eq_true rfl) dX6_ask_11 (fun r sg h_2 H locs hw => ?_)
  obtain ⟨rfl, rfl⟩ := h_2
  have hw : xW G A s.heap [[(mo, .inr (5, [.int (nI 3), .ref tx, .int (nI sz), .ref nw, .ref tr, .ref dy, .int (nI ac), .ref kp, .ref ik, .ref td, .ref ch, .int (nI sp), .int (nI ou)]))], [(nw, .inl (Y 0, 140, .inl (rowF ρ)))]] H locs := hw
  refine x_beq M (tgt := 19) dX6_ask_14 (by decide) (fun c_3 => absurd c_3 (fun z => by first | exact absurd z (by decide) | (have := of_decide_eq_true z; omega) | (have := of_decide_eq_false z; omega))) (fun c_3 => ?_)
  refine lv_iconst (v := (nI 0)) hx hb dX6_ask_17 (by decide) ?_
  exact hret _ _ _ (nI 0) _ _ dX6_ask_18 hw rfl rfl ⟨rfl, rfl⟩
set_option maxHeartbeats 4000000 in
set_option maxRecDepth 20000 in
theorem f_X6_bid_1 (l : Launch) (G : va_G) (Y : Nat → Nat) (mo rf tx sz nw tr dy ac kp ik td ch sp ou : Nat) (b : Int32) (ρ : Nat → Nat) (hI : Inv ρ) (hwhy : whyBid ρ b.toInt = 1) : CtI l yX6_bid cX6_bid 2 .int 2 46 [.ref mo, .int b] [[(mo, .inr (5, [.int (nI rf), .ref tx, .int (nI sz), .ref nw, .ref tr, .ref dy, .int (nI ac), .ref kp, .ref ik, .ref td, .ref ch, .int (nI sp), .int (nI ou)]))], [(nw, .inl (Y 0, 140, .inl (rowF ρ)))]] (fun r sg => r = nI 0 ∧ sg = [[(mo, .inr (5, [.int (nI 1), .ref tx, .int (nI sz), .ref nw, .ref tr, .ref dy, .int (nI ac), .ref kp, .ref ik, .ref td, .ref ch, .int (nI sp), .int (nI ou)]))], [(nw, .inl (Y 0, 140, .inl (rowF ρ)))]]) G Y := by
  refine x_ofI (by decide) (Nat.le_of_ble_eq_true rfl) (fun p e s m args below meth c A ls Q M hK hZ hw hl hret => ?_)
  obtain ⟨hx, hb, -⟩ := id M
  have hl : lv_has ls 2 [(0, .ref mo), (1, .int b)] := hl
  have := hI.n6
  have := hI.over
  have := hI.keep
  have := hI.stepp
  refine lv_aload_n hx hb dX6_bid_0 rfl (lv_at hl 0 rfl) ?_
  refine lv_aload_n hx hb dX6_bid_1 rfl (lv_at hl 0 rfl) ?_
  refine x_get M hK hw 0 0 rfl rfl ff_X6_13 rfl dX6_bid_2 ?_
  refine lv_iload_n hx hb dX6_bid_5 rfl (lv_at hl 1 rfl) ?_
  refine x_cSI (As := [.ref nw, .int b]) (k_X6_isBidder l G Y nw ρ b (hI)) cw_X6_79 [1] M hK hZ hw hl.1 rfl (by decide) ⟨by decide, by decide⟩ ⟨Nat.zero_le _, Nat.zero_le _⟩ rfl rfl (Nat.le_of_ble_eq_true rfl) dX6_bid_6 (fun r sg h_1 H locs hw => ?_)
  obtain ⟨rfl, rfl⟩ := h_1
  have hw : xW G A s.heap [[(mo, .inr (5, [.int (nI rf), .ref tx, .int (nI sz), .ref nw, .ref tr, .ref dy, .int (nI ac), .ref kp, .ref ik, .ref td, .ref ch, .int (nI sp), .int (nI ou)]))], [(nw, .inl (Y 0, 140, .inl (rowF ρ)))]] H locs := hw
  refine x_bne M (tgt := 16) dX6_bid_9 (by decide) (fun c_2 => ?_) (fun c_2 => ?_)
  · refine lv_aload_n hx hb dX6_bid_16 rfl (lv_at hl 0 rfl) ?_
    refine x_get M hK hw 0 0 rfl rfl ff_X6_13 rfl dX6_bid_17 ?_
    refine lv_iconst (v := (nI 1)) hx hb dX6_bid_20 (by decide) ?_
    refine x_iald M hK hw 1 0 rfl rfl (by decide) (by decide) dX6_bid_21 ?_
    refine x_topN (n := ρ 1) rfl ?_
    have q_3 : ρ 1 ≤ 1 := hI.over
    refine lv_iconst (v := (nI 1)) hx hb dX6_bid_22 (by decide) ?_
    refine x_cne M (tgt := 30) (by omega) (by decide) dX6_bid_23 (by decide) (fun c_4 => ?_) (fun c_4 => ?_)
    · refine lv_iconst (v := (nI 0)) hx hb dX6_bid_30 (by decide) ?_
      exact absurd hwhy (by clear hret hw hl M hK hZ hx hb; unfold whyBid; (first | rw [if_pos c_2] | rw [if_neg (Bool.eq_false_iff.mp c_2)] | rw [if_neg (nIn c_2)] | rw [if_pos (nOut c_2)] | rw [if_neg (by omega)] | rw [if_pos (by omega)]) <;> (first | rw [if_pos c_4] | rw [if_neg (Bool.eq_false_iff.mp c_4)] | rw [if_neg (nIn c_4)] | rw [if_pos (nOut c_4)] | rw [if_neg (by omega)] | rw [if_pos (by omega)]); first | decide | omega)
    refine lv_iconst (v := (nI 2)) hx hb dX6_bid_26 (by decide) ?_
    refine lv_goto (tgt := 31) hx hb dX6_bid_27 (by decide) ?_
    exact absurd hwhy (by clear hret hw hl M hK hZ hx hb; unfold whyBid; (first | rw [if_pos c_2] | rw [if_neg (Bool.eq_false_iff.mp c_2)] | rw [if_neg (nIn c_2)] | rw [if_pos (nOut c_2)] | rw [if_neg (by omega)] | rw [if_pos (by omega)]) <;> (first | rw [if_pos c_4] | rw [if_neg (Bool.eq_false_iff.mp c_4)] | rw [if_neg (nIn c_4)] | rw [if_pos (nOut c_4)] | rw [if_neg (by omega)] | rw [if_pos (by omega)]); first | decide | omega)
  refine lv_iconst (v := (nI 1)) hx hb dX6_bid_12 (by decide) ?_
  refine lv_goto (tgt := 31) hx hb dX6_bid_13 (by decide) ?_
  refine x_cVI (As := [.int (nI 1)]) (k_X6_refused l G Y mo rf tx sz nw tr dy ac kp ik td ch sp ou 1 (by omega)) cw_X6_103 [0] 0 0 M hK hZ hw hl.1 rfl (by decide) rfl rfl rfl ⟨by decide, by decide⟩ ⟨Nat.zero_le _, Nat.zero_le _⟩ rfl rfl (Nat.le_of_ble_eq_true rfl) dX6_bid_31 (fun r sg h_5 H locs hw => ?_)
  obtain ⟨rfl, rfl⟩ := h_5
  have hw : xW G A s.heap [[(mo, .inr (5, [.int (nI 1), .ref tx, .int (nI sz), .ref nw, .ref tr, .ref dy, .int (nI ac), .ref kp, .ref ik, .ref td, .ref ch, .int (nI sp), .int (nI ou)]))], [(nw, .inl (Y 0, 140, .inl (rowF ρ)))]] H locs := hw
  refine x_beq M (tgt := 39) dX6_bid_34 (by decide) (fun c_6 => absurd c_6 (fun z => by first | exact absurd z (by decide) | (have := of_decide_eq_true z; omega) | (have := of_decide_eq_false z; omega))) (fun c_6 => ?_)
  refine lv_iconst (v := (nI 0)) hx hb dX6_bid_37 (by decide) ?_
  exact hret _ _ _ (nI 0) _ _ dX6_bid_38 hw rfl rfl ⟨rfl, rfl⟩
set_option maxHeartbeats 4000000 in
set_option maxRecDepth 20000 in
theorem f_X6_bid_3 (l : Launch) (G : va_G) (Y : Nat → Nat) (mo rf tx sz nw tr dy ac kp ik td ch sp ou : Nat) (b : Int32) (ρ : Nat → Nat) (hI : Inv ρ) (hwhy : whyBid ρ b.toInt = 3) : CtI l yX6_bid cX6_bid 2 .int 2 46 [.ref mo, .int b] [[(mo, .inr (5, [.int (nI rf), .ref tx, .int (nI sz), .ref nw, .ref tr, .ref dy, .int (nI ac), .ref kp, .ref ik, .ref td, .ref ch, .int (nI sp), .int (nI ou)]))], [(nw, .inl (Y 0, 140, .inl (rowF ρ)))]] (fun r sg => r = nI 0 ∧ sg = [[(mo, .inr (5, [.int (nI 2), .ref tx, .int (nI sz), .ref nw, .ref tr, .ref dy, .int (nI ac), .ref kp, .ref ik, .ref td, .ref ch, .int (nI sp), .int (nI ou)]))], [(nw, .inl (Y 0, 140, .inl (rowF ρ)))]]) G Y := by
  refine x_ofI (by decide) (Nat.le_of_ble_eq_true rfl) (fun p e s m args below meth c A ls Q M hK hZ hw hl hret => ?_)
  obtain ⟨hx, hb, -⟩ := id M
  have hl : lv_has ls 2 [(0, .ref mo), (1, .int b)] := hl
  have := hI.n6
  have := hI.over
  have := hI.keep
  have := hI.stepp
  refine lv_aload_n hx hb dX6_bid_0 rfl (lv_at hl 0 rfl) ?_
  refine lv_aload_n hx hb dX6_bid_1 rfl (lv_at hl 0 rfl) ?_
  refine x_get M hK hw 0 0 rfl rfl ff_X6_13 rfl dX6_bid_2 ?_
  refine lv_iload_n hx hb dX6_bid_5 rfl (lv_at hl 1 rfl) ?_
  refine x_cSI (As := [.ref nw, .int b]) (k_X6_isBidder l G Y nw ρ b (hI)) cw_X6_79 [1] M hK hZ hw hl.1 rfl (by decide) ⟨by decide, by decide⟩ ⟨Nat.zero_le _, Nat.zero_le _⟩ rfl rfl (Nat.le_of_ble_eq_true rfl) dX6_bid_6 (fun r sg h_1 H locs hw => ?_)
  obtain ⟨rfl, rfl⟩ := h_1
  have hw : xW G A s.heap [[(mo, .inr (5, [.int (nI rf), .ref tx, .int (nI sz), .ref nw, .ref tr, .ref dy, .int (nI ac), .ref kp, .ref ik, .ref td, .ref ch, .int (nI sp), .int (nI ou)]))], [(nw, .inl (Y 0, 140, .inl (rowF ρ)))]] H locs := hw
  refine x_bne M (tgt := 16) dX6_bid_9 (by decide) (fun c_2 => ?_) (fun c_2 => ?_)
  · refine lv_aload_n hx hb dX6_bid_16 rfl (lv_at hl 0 rfl) ?_
    refine x_get M hK hw 0 0 rfl rfl ff_X6_13 rfl dX6_bid_17 ?_
    refine lv_iconst (v := (nI 1)) hx hb dX6_bid_20 (by decide) ?_
    refine x_iald M hK hw 1 0 rfl rfl (by decide) (by decide) dX6_bid_21 ?_
    refine x_topN (n := ρ 1) rfl ?_
    have q_3 : ρ 1 ≤ 1 := hI.over
    refine lv_iconst (v := (nI 1)) hx hb dX6_bid_22 (by decide) ?_
    refine x_cne M (tgt := 30) (by omega) (by decide) dX6_bid_23 (by decide) (fun c_4 => ?_) (fun c_4 => ?_)
    · refine lv_iconst (v := (nI 0)) hx hb dX6_bid_30 (by decide) ?_
      exact absurd hwhy (by clear hret hw hl M hK hZ hx hb; unfold whyBid; (first | rw [if_pos c_2] | rw [if_neg (Bool.eq_false_iff.mp c_2)] | rw [if_neg (nIn c_2)] | rw [if_pos (nOut c_2)] | rw [if_neg (by omega)] | rw [if_pos (by omega)]) <;> (first | rw [if_pos c_4] | rw [if_neg (Bool.eq_false_iff.mp c_4)] | rw [if_neg (nIn c_4)] | rw [if_pos (nOut c_4)] | rw [if_neg (by omega)] | rw [if_pos (by omega)]); first | decide | omega)
    refine lv_iconst (v := (nI 2)) hx hb dX6_bid_26 (by decide) ?_
    refine lv_goto (tgt := 31) hx hb dX6_bid_27 (by decide) ?_
    refine x_cVI (As := [.int (nI 2)]) (k_X6_refused l G Y mo rf tx sz nw tr dy ac kp ik td ch sp ou 2 (by omega)) cw_X6_103 [0] 0 0 M hK hZ hw hl.1 rfl (by decide) rfl rfl rfl ⟨by decide, by decide⟩ ⟨Nat.zero_le _, Nat.zero_le _⟩ rfl rfl (Nat.le_of_ble_eq_true rfl) dX6_bid_31 (fun r sg h_5 H locs hw => ?_)
    obtain ⟨rfl, rfl⟩ := h_5
    have hw : xW G A s.heap [[(mo, .inr (5, [.int (nI 2), .ref tx, .int (nI sz), .ref nw, .ref tr, .ref dy, .int (nI ac), .ref kp, .ref ik, .ref td, .ref ch, .int (nI sp), .int (nI ou)]))], [(nw, .inl (Y 0, 140, .inl (rowF ρ)))]] H locs := hw
    refine x_beq M (tgt := 39) dX6_bid_34 (by decide) (fun c_6 => absurd c_6 (fun z => by first | exact absurd z (by decide) | (have := of_decide_eq_true z; omega) | (have := of_decide_eq_false z; omega))) (fun c_6 => ?_)
    refine lv_iconst (v := (nI 0)) hx hb dX6_bid_37 (by decide) ?_
    exact hret _ _ _ (nI 0) _ _ dX6_bid_38 hw rfl rfl ⟨rfl, rfl⟩
  refine lv_iconst (v := (nI 1)) hx hb dX6_bid_12 (by decide) ?_
  refine lv_goto (tgt := 31) hx hb dX6_bid_13 (by decide) ?_
  exact absurd hwhy (by clear hret hw hl M hK hZ hx hb; unfold whyBid; (first | rw [if_pos c_2] | rw [if_neg (Bool.eq_false_iff.mp c_2)] | rw [if_neg (nIn c_2)] | rw [if_pos (nOut c_2)] | rw [if_neg (by omega)] | rw [if_pos (by omega)]); first | decide | omega)
set_option maxHeartbeats 4000000 in
set_option maxRecDepth 20000 in
theorem f_X6_close_3 (l : Launch) (G : va_G) (Y : Nat → Nat) (mo rf tx sz nw tr dy ac kp ik td ch sp ou : Nat) (ρ : Nat → Nat) (hI : Inv ρ) (hwhy : whyClose ρ = 3) : CtI l yX6_close cX6_close 1 .int 1 21 [.ref mo] [[(mo, .inr (5, [.int (nI rf), .ref tx, .int (nI sz), .ref nw, .ref tr, .ref dy, .int (nI ac), .ref kp, .ref ik, .ref td, .ref ch, .int (nI sp), .int (nI ou)]))], [(nw, .inl (Y 0, 140, .inl (rowF ρ)))]] (fun r sg => r = nI 0 ∧ sg = [[(mo, .inr (5, [.int (nI 1), .ref tx, .int (nI sz), .ref nw, .ref tr, .ref dy, .int (nI ac), .ref kp, .ref ik, .ref td, .ref ch, .int (nI sp), .int (nI ou)]))], [(nw, .inl (Y 0, 140, .inl (rowF ρ)))]]) G Y := by
  refine x_ofI (by decide) (Nat.le_of_ble_eq_true rfl) (fun p e s m args below meth c A ls Q M hK hZ hw hl hret => ?_)
  obtain ⟨hx, hb, -⟩ := id M
  have hl : lv_has ls 1 [(0, .ref mo)] := hl
  have := hI.n6
  have := hI.over
  have := hI.keep
  have := hI.stepp
  refine lv_aload_n hx hb dX6_close_0 rfl (lv_at hl 0 rfl) ?_
  refine lv_aload_n hx hb dX6_close_1 rfl (lv_at hl 0 rfl) ?_
  refine x_get M hK hw 0 0 rfl rfl ff_X6_13 rfl dX6_close_2 ?_
  refine lv_iconst (v := (nI 1)) hx hb dX6_close_5 (by decide) ?_
  refine x_iald M hK hw 1 0 rfl rfl (by decide) (by decide) dX6_close_6 ?_
  refine x_topN (n := ρ 1) rfl ?_
  have q_1 : ρ 1 ≤ 1 := hI.over
  refine lv_iconst (v := (nI 1)) hx hb dX6_close_7 (by decide) ?_
  refine x_cne M (tgt := 15) (by omega) (by decide) dX6_close_8 (by decide) (fun c_2 => ?_) (fun c_2 => ?_)
  · refine lv_iconst (v := (nI 0)) hx hb dX6_close_15 (by decide) ?_
    exact absurd hwhy (by clear hret hw hl M hK hZ hx hb; unfold whyClose; (first | rw [if_pos c_2] | rw [if_neg (Bool.eq_false_iff.mp c_2)] | rw [if_neg (nIn c_2)] | rw [if_pos (nOut c_2)] | rw [if_neg (by omega)] | rw [if_pos (by omega)]); first | decide | omega)
  refine lv_iconst (v := (nI 1)) hx hb dX6_close_11 (by decide) ?_
  refine lv_goto (tgt := 16) hx hb dX6_close_12 (by decide) ?_
  refine x_cVI (As := [.int (nI 1)]) (k_X6_refused l G Y mo rf tx sz nw tr dy ac kp ik td ch sp ou 1 (by omega)) cw_X6_103 [0] 0 0 M hK hZ hw hl.1 rfl (by decide) rfl rfl rfl ⟨by decide, by decide⟩ ⟨Nat.zero_le _, Nat.zero_le _⟩ rfl rfl (Nat.le_of_ble_eq_true rfl) dX6_close_16 (fun r sg h_3 H locs hw => ?_)
  obtain ⟨rfl, rfl⟩ := h_3
  have hw : xW G A s.heap [[(mo, .inr (5, [.int (nI 1), .ref tx, .int (nI sz), .ref nw, .ref tr, .ref dy, .int (nI ac), .ref kp, .ref ik, .ref td, .ref ch, .int (nI sp), .int (nI ou)]))], [(nw, .inl (Y 0, 140, .inl (rowF ρ)))]] H locs := hw
  refine x_beq M (tgt := 24) dX6_close_19 (by decide) (fun c_4 => absurd c_4 (fun z => by first | exact absurd z (by decide) | (have := of_decide_eq_true z; omega) | (have := of_decide_eq_false z; omega))) (fun c_4 => ?_)
  refine lv_iconst (v := (nI 0)) hx hb dX6_close_22 (by decide) ?_
  exact hret _ _ _ (nI 0) _ _ dX6_close_23 hw rfl rfl ⟨rfl, rfl⟩
set_option maxHeartbeats 4000000 in
set_option maxRecDepth 20000 in
theorem f_X6_add_1 (l : Launch) (G : va_G) (Y : Nat → Nat) (mo rf tx sz nw tr dy ac kp ik td ch sp ou : Nat) (b x y z v : Int32) (ρ : Nat → Nat) (hI : Inv ρ) (hwhy : whyAdd ρ b.toInt x.toInt y.toInt z.toInt v.toInt = 1) : CtI l yX6_add cX6_add 6 .int 3 74 [.ref mo, .int b, .int x, .int y, .int z, .int v] [[(mo, .inr (5, [.int (nI rf), .ref tx, .int (nI sz), .ref nw, .ref tr, .ref dy, .int (nI ac), .ref kp, .ref ik, .ref td, .ref ch, .int (nI sp), .int (nI ou)]))], [(nw, .inl (Y 0, 140, .inl (rowF ρ)))]] (fun r sg => r = nI 0 ∧ sg = [[(mo, .inr (5, [.int (nI 1), .ref tx, .int (nI sz), .ref nw, .ref tr, .ref dy, .int (nI ac), .ref kp, .ref ik, .ref td, .ref ch, .int (nI sp), .int (nI ou)]))], [(nw, .inl (Y 0, 140, .inl (rowF ρ)))]]) G Y := by
  refine x_ofI (by decide) (Nat.le_of_ble_eq_true rfl) (fun p e s m args below meth c A ls Q M hK hZ hw hl hret => ?_)
  obtain ⟨hx, hb, -⟩ := id M
  have hl : lv_has ls 6 [(0, .ref mo), (1, .int b), (2, .int x), (3, .int y), (4, .int z), (5, .int v)] := hl
  have := hI.n6
  have := hI.over
  have := hI.keep
  have := hI.stepp
  refine lv_aload_n hx hb dX6_add_0 rfl (lv_at hl 0 rfl) ?_
  refine lv_aload_n hx hb dX6_add_1 rfl (lv_at hl 0 rfl) ?_
  refine x_get M hK hw 0 0 rfl rfl ff_X6_13 rfl dX6_add_2 ?_
  refine lv_iload_n hx hb dX6_add_5 rfl (lv_at hl 1 rfl) ?_
  refine lv_iload_n hx hb dX6_add_6 rfl (lv_at hl 2 rfl) ?_
  refine lv_iload_n hx hb dX6_add_7 rfl (lv_at hl 3 rfl) ?_
  refine lv_iload hx hb dX6_add_8 (lv_at hl 4 rfl) ?_
  refine lv_iload hx hb dX6_add_10 (lv_at hl 5 rfl) ?_
  refine x_cSI (As := [.ref nw, .int b, .int x, .int y, .int z, .int v]) (k_X6_whyNotAdd l G Y nw ρ b x y z v (hI)) cw_X6_170 [1] M hK hZ hw hl.1 rfl (by decide) ⟨by decide, by decide⟩ ⟨Nat.zero_le _, Nat.zero_le _⟩ rfl rfl (Nat.le_of_ble_eq_true rfl) dX6_add_12 (fun r sg h_1 H locs hw => ?_)
  obtain ⟨rfl, rfl⟩ := h_1
  have hw : xW G A s.heap [[(mo, .inr (5, [.int (nI rf), .ref tx, .int (nI sz), .ref nw, .ref tr, .ref dy, .int (nI ac), .ref kp, .ref ik, .ref td, .ref ch, .int (nI sp), .int (nI ou)]))], [(nw, .inl (Y 0, 140, .inl (rowF ρ)))]] H locs := hw
  refine x_topN (n := 1) (congrArg nI (by rw [hwhy])) ?_
  refine x_cVI (As := [.int (nI 1)]) (k_X6_refused l G Y mo rf tx sz nw tr dy ac kp ik td ch sp ou 1 (by omega)) cw_X6_103 [0] 0 0 M hK hZ hw hl.1 rfl (by decide) rfl rfl rfl ⟨by decide, by decide⟩ ⟨Nat.zero_le _, Nat.zero_le _⟩ rfl rfl (Nat.le_of_ble_eq_true rfl) dX6_add_15 (fun r sg h_2 H locs hw => ?_)
  obtain ⟨rfl, rfl⟩ := h_2
  have hw : xW G A s.heap [[(mo, .inr (5, [.int (nI 1), .ref tx, .int (nI sz), .ref nw, .ref tr, .ref dy, .int (nI ac), .ref kp, .ref ik, .ref td, .ref ch, .int (nI sp), .int (nI ou)]))], [(nw, .inl (Y 0, 140, .inl (rowF ρ)))]] H locs := hw
  refine x_beq M (tgt := 23) dX6_add_18 (by decide) (fun c_3 => absurd c_3 (fun z => by first | exact absurd z (by decide) | (have := of_decide_eq_true z; omega) | (have := of_decide_eq_false z; omega))) (fun c_3 => ?_)
  refine lv_iconst (v := (nI 0)) hx hb dX6_add_21 (by decide) ?_
  exact hret _ _ _ (nI 0) _ _ dX6_add_22 hw rfl rfl ⟨rfl, rfl⟩
set_option maxHeartbeats 4000000 in
set_option maxRecDepth 20000 in
theorem f_X6_add_2 (l : Launch) (G : va_G) (Y : Nat → Nat) (mo rf tx sz nw tr dy ac kp ik td ch sp ou : Nat) (b x y z v : Int32) (ρ : Nat → Nat) (hI : Inv ρ) (hwhy : whyAdd ρ b.toInt x.toInt y.toInt z.toInt v.toInt = 2) : CtI l yX6_add cX6_add 6 .int 3 74 [.ref mo, .int b, .int x, .int y, .int z, .int v] [[(mo, .inr (5, [.int (nI rf), .ref tx, .int (nI sz), .ref nw, .ref tr, .ref dy, .int (nI ac), .ref kp, .ref ik, .ref td, .ref ch, .int (nI sp), .int (nI ou)]))], [(nw, .inl (Y 0, 140, .inl (rowF ρ)))]] (fun r sg => r = nI 0 ∧ sg = [[(mo, .inr (5, [.int (nI 2), .ref tx, .int (nI sz), .ref nw, .ref tr, .ref dy, .int (nI ac), .ref kp, .ref ik, .ref td, .ref ch, .int (nI sp), .int (nI ou)]))], [(nw, .inl (Y 0, 140, .inl (rowF ρ)))]]) G Y := by
  refine x_ofI (by decide) (Nat.le_of_ble_eq_true rfl) (fun p e s m args below meth c A ls Q M hK hZ hw hl hret => ?_)
  obtain ⟨hx, hb, -⟩ := id M
  have hl : lv_has ls 6 [(0, .ref mo), (1, .int b), (2, .int x), (3, .int y), (4, .int z), (5, .int v)] := hl
  have := hI.n6
  have := hI.over
  have := hI.keep
  have := hI.stepp
  refine lv_aload_n hx hb dX6_add_0 rfl (lv_at hl 0 rfl) ?_
  refine lv_aload_n hx hb dX6_add_1 rfl (lv_at hl 0 rfl) ?_
  refine x_get M hK hw 0 0 rfl rfl ff_X6_13 rfl dX6_add_2 ?_
  refine lv_iload_n hx hb dX6_add_5 rfl (lv_at hl 1 rfl) ?_
  refine lv_iload_n hx hb dX6_add_6 rfl (lv_at hl 2 rfl) ?_
  refine lv_iload_n hx hb dX6_add_7 rfl (lv_at hl 3 rfl) ?_
  refine lv_iload hx hb dX6_add_8 (lv_at hl 4 rfl) ?_
  refine lv_iload hx hb dX6_add_10 (lv_at hl 5 rfl) ?_
  refine x_cSI (As := [.ref nw, .int b, .int x, .int y, .int z, .int v]) (k_X6_whyNotAdd l G Y nw ρ b x y z v (hI)) cw_X6_170 [1] M hK hZ hw hl.1 rfl (by decide) ⟨by decide, by decide⟩ ⟨Nat.zero_le _, Nat.zero_le _⟩ rfl rfl (Nat.le_of_ble_eq_true rfl) dX6_add_12 (fun r sg h_1 H locs hw => ?_)
  obtain ⟨rfl, rfl⟩ := h_1
  have hw : xW G A s.heap [[(mo, .inr (5, [.int (nI rf), .ref tx, .int (nI sz), .ref nw, .ref tr, .ref dy, .int (nI ac), .ref kp, .ref ik, .ref td, .ref ch, .int (nI sp), .int (nI ou)]))], [(nw, .inl (Y 0, 140, .inl (rowF ρ)))]] H locs := hw
  refine x_topN (n := 2) (congrArg nI (by rw [hwhy])) ?_
  refine x_cVI (As := [.int (nI 2)]) (k_X6_refused l G Y mo rf tx sz nw tr dy ac kp ik td ch sp ou 2 (by omega)) cw_X6_103 [0] 0 0 M hK hZ hw hl.1 rfl (by decide) rfl rfl rfl ⟨by decide, by decide⟩ ⟨Nat.zero_le _, Nat.zero_le _⟩ rfl rfl (Nat.le_of_ble_eq_true rfl) dX6_add_15 (fun r sg h_2 H locs hw => ?_)
  obtain ⟨rfl, rfl⟩ := h_2
  have hw : xW G A s.heap [[(mo, .inr (5, [.int (nI 2), .ref tx, .int (nI sz), .ref nw, .ref tr, .ref dy, .int (nI ac), .ref kp, .ref ik, .ref td, .ref ch, .int (nI sp), .int (nI ou)]))], [(nw, .inl (Y 0, 140, .inl (rowF ρ)))]] H locs := hw
  refine x_beq M (tgt := 23) dX6_add_18 (by decide) (fun c_3 => absurd c_3 (fun z => by first | exact absurd z (by decide) | (have := of_decide_eq_true z; omega) | (have := of_decide_eq_false z; omega))) (fun c_3 => ?_)
  refine lv_iconst (v := (nI 0)) hx hb dX6_add_21 (by decide) ?_
  exact hret _ _ _ (nI 0) _ _ dX6_add_22 hw rfl rfl ⟨rfl, rfl⟩
set_option maxHeartbeats 4000000 in
set_option maxRecDepth 20000 in
theorem f_X6_add_3 (l : Launch) (G : va_G) (Y : Nat → Nat) (mo rf tx sz nw tr dy ac kp ik td ch sp ou : Nat) (b x y z v : Int32) (ρ : Nat → Nat) (hI : Inv ρ) (hwhy : whyAdd ρ b.toInt x.toInt y.toInt z.toInt v.toInt = 3) : CtI l yX6_add cX6_add 6 .int 3 74 [.ref mo, .int b, .int x, .int y, .int z, .int v] [[(mo, .inr (5, [.int (nI rf), .ref tx, .int (nI sz), .ref nw, .ref tr, .ref dy, .int (nI ac), .ref kp, .ref ik, .ref td, .ref ch, .int (nI sp), .int (nI ou)]))], [(nw, .inl (Y 0, 140, .inl (rowF ρ)))]] (fun r sg => r = nI 0 ∧ sg = [[(mo, .inr (5, [.int (nI 3), .ref tx, .int (nI sz), .ref nw, .ref tr, .ref dy, .int (nI ac), .ref kp, .ref ik, .ref td, .ref ch, .int (nI sp), .int (nI ou)]))], [(nw, .inl (Y 0, 140, .inl (rowF ρ)))]]) G Y := by
  refine x_ofI (by decide) (Nat.le_of_ble_eq_true rfl) (fun p e s m args below meth c A ls Q M hK hZ hw hl hret => ?_)
  obtain ⟨hx, hb, -⟩ := id M
  have hl : lv_has ls 6 [(0, .ref mo), (1, .int b), (2, .int x), (3, .int y), (4, .int z), (5, .int v)] := hl
  have := hI.n6
  have := hI.over
  have := hI.keep
  have := hI.stepp
  refine lv_aload_n hx hb dX6_add_0 rfl (lv_at hl 0 rfl) ?_
  refine lv_aload_n hx hb dX6_add_1 rfl (lv_at hl 0 rfl) ?_
  refine x_get M hK hw 0 0 rfl rfl ff_X6_13 rfl dX6_add_2 ?_
  refine lv_iload_n hx hb dX6_add_5 rfl (lv_at hl 1 rfl) ?_
  refine lv_iload_n hx hb dX6_add_6 rfl (lv_at hl 2 rfl) ?_
  refine lv_iload_n hx hb dX6_add_7 rfl (lv_at hl 3 rfl) ?_
  refine lv_iload hx hb dX6_add_8 (lv_at hl 4 rfl) ?_
  refine lv_iload hx hb dX6_add_10 (lv_at hl 5 rfl) ?_
  refine x_cSI (As := [.ref nw, .int b, .int x, .int y, .int z, .int v]) (k_X6_whyNotAdd l G Y nw ρ b x y z v (hI)) cw_X6_170 [1] M hK hZ hw hl.1 rfl (by decide) ⟨by decide, by decide⟩ ⟨Nat.zero_le _, Nat.zero_le _⟩ rfl rfl (Nat.le_of_ble_eq_true rfl) dX6_add_12 (fun r sg h_1 H locs hw => ?_)
  obtain ⟨rfl, rfl⟩ := h_1
  have hw : xW G A s.heap [[(mo, .inr (5, [.int (nI rf), .ref tx, .int (nI sz), .ref nw, .ref tr, .ref dy, .int (nI ac), .ref kp, .ref ik, .ref td, .ref ch, .int (nI sp), .int (nI ou)]))], [(nw, .inl (Y 0, 140, .inl (rowF ρ)))]] H locs := hw
  refine x_topN (n := 3) (congrArg nI (by rw [hwhy])) ?_
  refine x_cVI (As := [.int (nI 3)]) (k_X6_refused l G Y mo rf tx sz nw tr dy ac kp ik td ch sp ou 3 (by omega)) cw_X6_103 [0] 0 0 M hK hZ hw hl.1 rfl (by decide) rfl rfl rfl ⟨by decide, by decide⟩ ⟨Nat.zero_le _, Nat.zero_le _⟩ rfl rfl (Nat.le_of_ble_eq_true rfl) dX6_add_15 (fun r sg h_2 H locs hw => ?_)
  obtain ⟨rfl, rfl⟩ := h_2
  have hw : xW G A s.heap [[(mo, .inr (5, [.int (nI 3), .ref tx, .int (nI sz), .ref nw, .ref tr, .ref dy, .int (nI ac), .ref kp, .ref ik, .ref td, .ref ch, .int (nI sp), .int (nI ou)]))], [(nw, .inl (Y 0, 140, .inl (rowF ρ)))]] H locs := hw
  refine x_beq M (tgt := 23) dX6_add_18 (by decide) (fun c_3 => absurd c_3 (fun z => by first | exact absurd z (by decide) | (have := of_decide_eq_true z; omega) | (have := of_decide_eq_false z; omega))) (fun c_3 => ?_)
  refine lv_iconst (v := (nI 0)) hx hb dX6_add_21 (by decide) ?_
  exact hret _ _ _ (nI 0) _ _ dX6_add_22 hw rfl rfl ⟨rfl, rfl⟩
set_option maxHeartbeats 4000000 in
set_option maxRecDepth 20000 in
theorem f_X6_drop_1 (l : Launch) (G : va_G) (Y : Nat → Nat) (mo rf tx sz nw tr dy ac kp ik td ch sp ou : Nat) (b i : Int32) (ρ : Nat → Nat) (hI : Inv ρ) (hwhy : whyDrop ρ b.toInt i.toInt = 1) : CtI l yX6_drop cX6_drop 3 .int 3 68 [.ref mo, .int b, .int i] [[(mo, .inr (5, [.int (nI rf), .ref tx, .int (nI sz), .ref nw, .ref tr, .ref dy, .int (nI ac), .ref kp, .ref ik, .ref td, .ref ch, .int (nI sp), .int (nI ou)]))], [(nw, .inl (Y 0, 140, .inl (rowF ρ)))]] (fun r sg => r = nI 0 ∧ sg = [[(mo, .inr (5, [.int (nI 1), .ref tx, .int (nI sz), .ref nw, .ref tr, .ref dy, .int (nI ac), .ref kp, .ref ik, .ref td, .ref ch, .int (nI sp), .int (nI ou)]))], [(nw, .inl (Y 0, 140, .inl (rowF ρ)))]]) G Y := by
  refine x_ofI (by decide) (Nat.le_of_ble_eq_true rfl) (fun p e s m args below meth c A ls Q M hK hZ hw hl hret => ?_)
  obtain ⟨hx, hb, -⟩ := id M
  have hl : lv_has ls 3 [(0, .ref mo), (1, .int b), (2, .int i)] := hl
  have := hI.n6
  have := hI.over
  have := hI.keep
  have := hI.stepp
  refine lv_aload_n hx hb dX6_drop_0 rfl (lv_at hl 0 rfl) ?_
  refine lv_aload_n hx hb dX6_drop_1 rfl (lv_at hl 0 rfl) ?_
  refine x_get M hK hw 0 0 rfl rfl ff_X6_13 rfl dX6_drop_2 ?_
  refine lv_iload_n hx hb dX6_drop_5 rfl (lv_at hl 1 rfl) ?_
  refine lv_iload_n hx hb dX6_drop_6 rfl (lv_at hl 2 rfl) ?_
  refine x_cSI (As := [.ref nw, .int b, .int i]) (k_X6_canDrop l G Y nw ρ b i (hI)) cw_X6_177 [1] M hK hZ hw hl.1 rfl (by decide) ⟨by decide, by decide⟩ ⟨Nat.zero_le _, Nat.zero_le _⟩ rfl rfl (Nat.le_of_ble_eq_true rfl) dX6_drop_7 (fun r sg h_1 H locs hw => ?_)
  obtain ⟨rfl, rfl⟩ := h_1
  have hw : xW G A s.heap [[(mo, .inr (5, [.int (nI rf), .ref tx, .int (nI sz), .ref nw, .ref tr, .ref dy, .int (nI ac), .ref kp, .ref ik, .ref td, .ref ch, .int (nI sp), .int (nI ou)]))], [(nw, .inl (Y 0, 140, .inl (rowF ρ)))]] H locs := hw
  refine x_beq M (tgt := 17) dX6_drop_10 (by decide) (fun c_2 => ?_) (fun c_2 => absurd c_2 (fun z => by have h9 := z; rw [(canDr_no hwhy)] at h9; exact absurd h9 (by decide)))
  refine lv_iconst (v := (nI 1)) hx hb dX6_drop_17 (by decide) ?_
  refine x_cVI (As := [.int (nI 1)]) (k_X6_refused l G Y mo rf tx sz nw tr dy ac kp ik td ch sp ou 1 (by omega)) cw_X6_103 [0] 0 0 M hK hZ hw hl.1 rfl (by decide) rfl rfl rfl ⟨by decide, by decide⟩ ⟨Nat.zero_le _, Nat.zero_le _⟩ rfl rfl (Nat.le_of_ble_eq_true rfl) dX6_drop_18 (fun r sg h_3 H locs hw => ?_)
  obtain ⟨rfl, rfl⟩ := h_3
  have hw : xW G A s.heap [[(mo, .inr (5, [.int (nI 1), .ref tx, .int (nI sz), .ref nw, .ref tr, .ref dy, .int (nI ac), .ref kp, .ref ik, .ref td, .ref ch, .int (nI sp), .int (nI ou)]))], [(nw, .inl (Y 0, 140, .inl (rowF ρ)))]] H locs := hw
  refine x_beq M (tgt := 26) dX6_drop_21 (by decide) (fun c_4 => absurd c_4 (fun z => by first | exact absurd z (by decide) | (have := of_decide_eq_true z; omega) | (have := of_decide_eq_false z; omega))) (fun c_4 => ?_)
  refine lv_iconst (v := (nI 0)) hx hb dX6_drop_24 (by decide) ?_
  exact hret _ _ _ (nI 0) _ _ dX6_drop_25 hw rfl rfl ⟨rfl, rfl⟩
set_option maxHeartbeats 4000000 in
set_option maxRecDepth 20000 in
theorem f_X6_set_2 (l : Launch) (G : va_G) (Y : Nat → Nat) (mo rf tx sz nw tr dy ac kp ik td ch sp ou : Nat) (w v : Int32) (ρ : Nat → Nat) (hI : Inv ρ) (hwhy : whySet w.toInt v.toInt = 2) : CtI l yX6_set cX6_set 4 .int 2 46 [.ref mo, .int w, .int v] [[(mo, .inr (5, [.int (nI rf), .ref tx, .int (nI sz), .ref nw, .ref tr, .ref dy, .int (nI ac), .ref kp, .ref ik, .ref td, .ref ch, .int (nI sp), .int (nI ou)]))], [(nw, .inl (Y 0, 140, .inl (rowF ρ)))]] (fun r sg => r = nI 0 ∧ sg = [[(mo, .inr (5, [.int (nI 1), .ref tx, .int (nI sz), .ref nw, .ref tr, .ref dy, .int (nI ac), .ref kp, .ref ik, .ref td, .ref ch, .int (nI sp), .int (nI ou)]))], [(nw, .inl (Y 0, 140, .inl (rowF ρ)))]]) G Y := by
  refine x_ofI (by decide) (Nat.le_of_ble_eq_true rfl) (fun p e s m args below meth c A ls Q M hK hZ hw hl hret => ?_)
  obtain ⟨hx, hb, -⟩ := id M
  have hl : lv_has ls 4 [(0, .ref mo), (1, .int w), (2, .int v)] := hl
  have := hI.n6
  have := hI.over
  have := hI.keep
  have := hI.stepp
  refine lv_aload_n hx hb dX6_set_0 rfl (lv_at hl 0 rfl) ?_
  refine lv_iload_n hx hb dX6_set_1 rfl (lv_at hl 1 rfl) ?_
  refine lv_iload_n hx hb dX6_set_2 rfl (lv_at hl 2 rfl) ?_
  refine x_cSI (As := [.int w, .int v]) (k_X6_isSetting l G Y w v) cw_X6_188 [] M hK hZ hw hl.1 rfl (by decide) ⟨by decide, by decide⟩ ⟨Nat.zero_le _, Nat.zero_le _⟩ rfl rfl (Nat.le_of_ble_eq_true rfl) dX6_set_3 (fun r sg h_1 H locs hw => ?_)
  obtain ⟨rfl, rfl⟩ := h_1
  have hw : xW G A s.heap [[(mo, .inr (5, [.int (nI rf), .ref tx, .int (nI sz), .ref nw, .ref tr, .ref dy, .int (nI ac), .ref kp, .ref ik, .ref td, .ref ch, .int (nI sp), .int (nI ou)]))], [(nw, .inl (Y 0, 140, .inl (rowF ρ)))]] H locs := hw
  refine x_beq M (tgt := 13) dX6_set_6 (by decide) (fun c_2 => ?_) (fun c_2 => absurd c_2 (fun z => by have h9 := z; rw [(isSet_no hwhy)] at h9; exact absurd h9 (by decide)))
  refine lv_iconst (v := (nI 1)) hx hb dX6_set_13 (by decide) ?_
  refine x_cVI (As := [.int (nI 1)]) (k_X6_refused l G Y mo rf tx sz nw tr dy ac kp ik td ch sp ou 1 (by omega)) cw_X6_103 [0] 0 0 M hK hZ hw hl.1 rfl (by decide) rfl rfl rfl ⟨by decide, by decide⟩ ⟨Nat.zero_le _, Nat.zero_le _⟩ rfl rfl (Nat.le_of_ble_eq_true rfl) dX6_set_14 (fun r sg h_3 H locs hw => ?_)
  obtain ⟨rfl, rfl⟩ := h_3
  have hw : xW G A s.heap [[(mo, .inr (5, [.int (nI 1), .ref tx, .int (nI sz), .ref nw, .ref tr, .ref dy, .int (nI ac), .ref kp, .ref ik, .ref td, .ref ch, .int (nI sp), .int (nI ou)]))], [(nw, .inl (Y 0, 140, .inl (rowF ρ)))]] H locs := hw
  refine x_beq M (tgt := 22) dX6_set_17 (by decide) (fun c_4 => absurd c_4 (fun z => by first | exact absurd z (by decide) | (have := of_decide_eq_true z; omega) | (have := of_decide_eq_false z; omega))) (fun c_4 => ?_)
  refine lv_iconst (v := (nI 0)) hx hb dX6_set_20 (by decide) ?_
  exact hret _ _ _ (nI 0) _ _ dX6_set_21 hw rfl rfl ⟨rfl, rfl⟩
