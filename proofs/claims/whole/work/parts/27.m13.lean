set_option maxHeartbeats 4000000 in
set_option maxRecDepth 20000 in
theorem k_X6_does_s (l : Launch) (G : va_G) (Y : Nat → Nat) (a k u v : Nat) (ρ : Nat → Nat) (hI : Inv ρ) (hk : k < 3) (hu : 1 ≤ u ∧ u ≤ 9) (hv : 1 ≤ v ∧ v ≤ 9) : CtI l yX6_does cX6_does 5 .boolean 0 0 [.ref a, .int (nI 115), .int (nI k), .int (nI u), .int (nI v)] [[(a, .inl (Y 0, 140, .inl (rowF ρ)))]] (fun r sg => r = b2i (decide (tOffer ρ k u v = 0)) ∧ sg = [[(a, .inl (Y 0, 140, .inl (rowF (dOffer ρ k u v))))]]) G Y := by
  refine x_ofI (by decide) (Nat.le_of_ble_eq_true rfl) (fun p e s m args below meth c A ls Q M hK hZ hw hl hret => ?_)
  obtain ⟨hx, hb, -⟩ := id M
  have hl : lv_has ls 5 [(0, .ref a), (1, .int (nI 115)), (2, .int (nI k)), (3, .int (nI u)), (4, .int (nI v))] := hl
  have := hI.n6
  have := hI.over
  have := hI.keep
  have := hI.stepp
  refine lv_iload_n hx hb dX6_does_0 rfl (lv_at hl 1 rfl) ?_
  refine lv_lookup (tgt := 52) hx hb dX6_does_1 (by decide) rfl (by decide) ?_
  refine lv_aload_n hx hb dX6_does_52 rfl (lv_at hl 0 rfl) ?_
  refine lv_iconst (v := (nI 0)) hx hb dX6_does_53 (by decide) ?_
  refine x_iald M hK hw 0 0 rfl rfl (by decide) (by decide) dX6_does_54 ?_
  refine x_topN (n := ρ 0) rfl ?_
  refine lv_if_gt (tgt := 64) hx hb dX6_does_55 (by decide) (fun c_1 => ?_) (fun c_1 => ?_)
  · have c_1 := startI_gt c_1
    refine lv_iconst (v := (nI 0)) hx hb dX6_does_64 (by decide) ?_
    exact hret _ _ _ (nI 0) _ _ dX6_does_65 hw rfl rfl ⟨b2i_f (decide_eq_false (fun z => by have := (okN_offer z).2.2.2.2; rw [c_1] at this; exact absurd this (by decide))), by rw [show dOffer ρ k u v = ρ from if_neg (fun z => by have := (okN_offer z).2.2.2.2; rw [c_1] at this; exact absurd this (by decide))]⟩
  have c_1 := startN_gt c_1
  refine lv_aload_n hx hb dX6_does_58 rfl (lv_at hl 0 rfl) ?_
  refine lv_iconst (v := (nI 4)) hx hb dX6_does_59 (by decide) ?_
  refine x_iald M hK hw 0 0 rfl rfl (by decide) (by decide) dX6_does_60 ?_
  refine x_topN (n := ρ 4) rfl ?_
  have q_2 : ρ 4 ≤ 6 := hI.n6
  refine x_zle M (tgt := 66) (by omega) dX6_does_61 (by decide) (fun c_3 => ?_) (fun c_3 => ?_)
  · refine lv_aload_n hx hb dX6_does_66 rfl (lv_at hl 0 rfl) ?_
    refine lv_iconst (v := (nI 5)) hx hb dX6_does_67 (by decide) ?_
    refine lv_iload_n hx hb dX6_does_68 rfl (lv_at hl 2 rfl) ?_
    refine x_iadd M (n := 5 + k) dX6_does_69 rfl ?_
    refine lv_iload_n hx hb dX6_does_70 rfl (lv_at hl 3 rfl) ?_
    refine x_iast M hK hw 0 0 rfl rfl (by omega) (by decide) dX6_does_71 (fun H locs hw => ?_)
    rw [upd_row] at hw
    have hw : xW G A s.heap [[(a, .inl (Y 0, 140, .inl (rowF (setN ρ (5 + k) u))))]] H locs := hw
    refine lv_aload_n hx hb dX6_does_72 rfl (lv_at hl 0 rfl) ?_
    refine lv_bipush (v := (nI 8)) hx hb dX6_does_73 (by decide) ?_
    refine lv_iload_n hx hb dX6_does_75 rfl (lv_at hl 2 rfl) ?_
    refine x_iadd M (n := 8 + k) dX6_does_76 rfl ?_
    refine lv_iload hx hb dX6_does_77 (lv_at hl 4 rfl) ?_
    refine x_iast M hK hw 0 0 rfl rfl (by omega) (by decide) dX6_does_79 (fun H locs hw => ?_)
    rw [upd_row] at hw
    have hw : xW G A s.heap [[(a, .inl (Y 0, 140, .inl (rowF (setN (setN ρ (5 + k) u) (8 + k) v))))]] H locs := hw
    refine lv_iconst (v := (nI 1)) hx hb dX6_does_80 (by decide) ?_
    have hw := row_fold (i := 0) (f' := rowF (mOffer ρ k u v)) hw rfl (fun q hq => congrArg nI (by clear hret hw hl M hK hZ hx hb; simp only [mOffer, setN, if_true, if_false, reduceIte] <;> (repeat' split) <;> first | rfl | (exfalso; omega) | omega))
    have hw : xW G A s.heap [[(a, .inl (Y 0, 140, .inl (rowF (mOffer ρ k u v))))]] H locs := hw
    exact hret _ _ _ (nI 1) _ _ dX6_does_81 hw rfl rfl ⟨b2i_t (decide_eq_true (tOffer_ok hk hu hv (by omega) c_1)), by rw [show dOffer ρ k u v = mOffer ρ k u v from if_pos (tOffer_ok hk hu hv (by omega) c_1)]⟩
  refine lv_iconst (v := (nI 0)) hx hb dX6_does_64 (by decide) ?_
  exact hret _ _ _ (nI 0) _ _ dX6_does_65 hw rfl rfl ⟨b2i_f (decide_eq_false (fun z => by have := okN_offer z; omega)), by rw [show dOffer ρ k u v = ρ from if_neg (fun z => by have := okN_offer z; omega)]⟩
set_option maxHeartbeats 4000000 in
set_option maxRecDepth 20000 in
theorem k_X6_does_b (l : Launch) (G : va_G) (Y : Nat → Nat) (a u v z : Nat) (ρ : Nat → Nat) (hI : Inv ρ) (g0 : u < 2 ^ 31) (g1 : v < 2 ^ 31) : CtI l yX6_does cX6_does 5 .boolean 2 47 [.ref a, .int (nI 98), .int (nI u), .int (nI v), .int (nI z)] [[(a, .inl (Y 0, 140, .inl (rowF ρ)))]] (fun r sg => r = b2i (decide (tJoin ρ u v = 0)) ∧ sg = [[(a, .inl (Y 0, 140, .inl (rowF (dJoin ρ u v))))]]) G Y := by
  refine x_ofI (by decide) (Nat.le_of_ble_eq_true rfl) (fun p e s m args below meth c A ls Q M hK hZ hw hl hret => ?_)
  obtain ⟨hx, hb, -⟩ := id M
  have hl : lv_has ls 5 [(0, .ref a), (1, .int (nI 98)), (2, .int (nI u)), (3, .int (nI v)), (4, .int (nI z))] := hl
  have := hI.n6
  have := hI.over
  have := hI.keep
  have := hI.stepp
  refine lv_iload_n hx hb dX6_does_0 rfl (lv_at hl 1 rfl) ?_
  refine lv_lookup (tgt := 82) hx hb dX6_does_1 (by decide) rfl (by decide) ?_
  refine lv_aload_n hx hb dX6_does_82 rfl (lv_at hl 0 rfl) ?_
  refine lv_iload_n hx hb dX6_does_83 rfl (lv_at hl 2 rfl) ?_
  refine lv_iload_n hx hb dX6_does_84 rfl (lv_at hl 3 rfl) ?_
  refine x_cSI (As := [.ref a, .int (nI u), .int (nI v)]) (k_X6_whyNotJoin l G Y a ρ (nI u) (nI v) (hI)) cw_X6_112 [0] M hK hZ hw hl.1 rfl (by decide) ⟨by decide, by decide⟩ ⟨Nat.zero_le _, Nat.zero_le _⟩ rfl rfl (Nat.le_of_ble_eq_true rfl) dX6_does_85 (fun r sg h_1 H locs hw => ?_)
  obtain ⟨rfl, rfl⟩ := h_1
  have hw : xW G A s.heap [[(a, .inl (Y 0, 140, .inl (rowF ρ)))]] H locs := hw
  refine x_topN (n := (whyJoin ρ (nI u).toInt (nI v).toInt - 1)) (congrArg nI (by omega)) ?_
  refine x_topN (n := (tJoin ρ u v - 1)) (congrArg nI (by unfold tJoin; rw [nI_toInt g0, nI_toInt g1])) ?_
  have hle : tJoin ρ u v ≤ 3 := whyJoin_le
  have hle1 : tJoin ρ u v ≠ 1 := whyJoin_1
  refine x_zne M (tgt := 104) (by omega) dX6_does_88 (by decide) (fun c_2 => ?_) (fun c_2 => ?_)
  · refine lv_iconst (v := (nI 0)) hx hb dX6_does_104 (by decide) ?_
    exact hret _ _ _ (nI 0) _ _ dX6_does_105 hw rfl rfl ⟨b2i_f (decide_eq_false (by omega)), by rw [show dJoin ρ u v = ρ from if_neg (by omega)]⟩
  have hok := okN_join (ρ := ρ) (show tJoin ρ u v = 0 by omega)
  refine lv_aload_n hx hb dX6_does_91 rfl (lv_at hl 0 rfl) ?_
  refine lv_iload_n hx hb dX6_does_92 rfl (lv_at hl 2 rfl) ?_
  refine lv_iload_n hx hb dX6_does_93 rfl (lv_at hl 3 rfl) ?_
  refine x_cSI (As := [.ref a, .int (nI u), .int (nI v)]) (k_X6_joinOn l G Y a u v ρ (hI) (by omega)) cw_X6_116 [0] M hK hZ hw hl.1 rfl (by decide) ⟨by decide, by decide⟩ ⟨Nat.zero_le _, Nat.zero_le _⟩ rfl rfl (Nat.le_of_ble_eq_true rfl) dX6_does_94 (fun r sg h_3 H locs hw => ?_)
  obtain ⟨rfl, rfl⟩ := h_3
  have hw : xW G A s.heap [[(a, .inl (Y 0, 140, .inl (rowF (mJoin ρ u v))))]] H locs := hw
  refine x_zlt M (tgt := 104) (by omega) dX6_does_97 (by decide) ?_
  refine lv_iconst (v := (nI 1)) hx hb dX6_does_100 (by decide) ?_
  refine lv_goto (tgt := 105) hx hb dX6_does_101 (by decide) ?_
  exact hret _ _ _ (nI 1) _ _ dX6_does_105 hw rfl rfl ⟨b2i_t (decide_eq_true (by omega)), by rw [show dJoin ρ u v = mJoin ρ u v from if_pos (by omega)]⟩
set_option maxHeartbeats 4000000 in
set_option maxRecDepth 20000 in
theorem k_X6_does_v (l : Launch) (G : va_G) (Y : Nat → Nat) (a b k v : Nat) (ρ : Nat → Nat) (hI : Inv ρ) (g0 : b < 2 ^ 31) (g1 : k < 2 ^ 31) (g2 : v < 2 ^ 31) : CtI l yX6_does cX6_does 5 .boolean 3 69 [.ref a, .int (nI 118), .int (nI b), .int (nI k), .int (nI v)] [[(a, .inl (Y 0, 140, .inl (rowF ρ)))]] (fun r sg => r = b2i (decide (tVal ρ b k v = 0)) ∧ sg = [[(a, .inl (Y 0, 140, .inl (rowF (dVal ρ b k v))))]]) G Y := by
  refine x_ofI (by decide) (Nat.le_of_ble_eq_true rfl) (fun p e s m args below meth c A ls Q M hK hZ hw hl hret => ?_)
  obtain ⟨hx, hb, -⟩ := id M
  have hl : lv_has ls 5 [(0, .ref a), (1, .int (nI 118)), (2, .int (nI b)), (3, .int (nI k)), (4, .int (nI v))] := hl
  have := hI.n6
  have := hI.over
  have := hI.keep
  have := hI.stepp
  refine lv_iload_n hx hb dX6_does_0 rfl (lv_at hl 1 rfl) ?_
  refine lv_lookup (tgt := 106) hx hb dX6_does_1 (by decide) rfl (by decide) ?_
  refine lv_aload_n hx hb dX6_does_106 rfl (lv_at hl 0 rfl) ?_
  refine lv_iload_n hx hb dX6_does_107 rfl (lv_at hl 2 rfl) ?_
  refine lv_iload_n hx hb dX6_does_108 rfl (lv_at hl 3 rfl) ?_
  refine lv_iload hx hb dX6_does_109 (lv_at hl 4 rfl) ?_
  refine x_cSI (As := [.ref a, .int (nI b), .int (nI k), .int (nI v)]) (k_X6_whyNotValue l G Y a ρ (nI b) (nI k) (nI v) (hI)) cw_X6_119 [0] M hK hZ hw hl.1 rfl (by decide) ⟨by decide, by decide⟩ ⟨Nat.zero_le _, Nat.zero_le _⟩ rfl rfl (Nat.le_of_ble_eq_true rfl) dX6_does_111 (fun r sg h_1 H locs hw => ?_)
  obtain ⟨rfl, rfl⟩ := h_1
  have hw : xW G A s.heap [[(a, .inl (Y 0, 140, .inl (rowF ρ)))]] H locs := hw
  refine x_topN (n := (tVal ρ b k v)) (congrArg nI (by unfold tVal; rw [nI_toInt g0, nI_toInt g1, nI_toInt g2])) ?_
  have hle : tVal ρ b k v ≤ 3 := whyValue_le
  refine x_zne M (tgt := 132) (by omega) dX6_does_114 (by decide) (fun c_2 => ?_) (fun c_2 => ?_)
  · refine lv_iconst (v := (nI 0)) hx hb dX6_does_132 (by decide) ?_
    exact hret _ _ _ (nI 0) _ _ dX6_does_133 hw rfl rfl ⟨b2i_f (decide_eq_false (by omega)), by rw [show dVal ρ b k v = ρ from if_neg (by omega)]⟩
  have hok := okN_value (ρ := ρ) (show tVal ρ b k v = 0 by omega)
  refine lv_aload_n hx hb dX6_does_117 rfl (lv_at hl 0 rfl) ?_
  refine lv_iload_n hx hb dX6_does_118 rfl (lv_at hl 2 rfl) ?_
  refine lv_iload_n hx hb dX6_does_119 rfl (lv_at hl 3 rfl) ?_
  refine lv_iload hx hb dX6_does_120 (lv_at hl 4 rfl) ?_
  refine x_cSI (As := [.ref a, .int (nI b), .int (nI k), .int (nI v)]) (k_X6_valueOn l G Y a b k v ρ (hI) (by omega) (by omega)) cw_X6_122 [0] M hK hZ hw hl.1 rfl (by decide) ⟨by decide, by decide⟩ ⟨Nat.zero_le _, Nat.zero_le _⟩ rfl rfl (Nat.le_of_ble_eq_true rfl) dX6_does_122 (fun r sg h_3 H locs hw => ?_)
  obtain ⟨rfl, rfl⟩ := h_3
  have hw : xW G A s.heap [[(a, .inl (Y 0, 140, .inl (rowF (mVal ρ b k v))))]] H locs := hw
  have q_4 : ρ (16 + 21 * b + k) ≤ 99999 := hI.val (by omega) (by omega) rfl
  refine x_zlt M (tgt := 132) (by omega) dX6_does_125 (by decide) ?_
  refine lv_iconst (v := (nI 1)) hx hb dX6_does_128 (by decide) ?_
  refine lv_goto (tgt := 133) hx hb dX6_does_129 (by decide) ?_
  exact hret _ _ _ (nI 1) _ _ dX6_does_133 hw rfl rfl ⟨b2i_t (decide_eq_true (by omega)), by rw [show dVal ρ b k v = mVal ρ b k v from if_pos (by omega)]⟩
set_option maxHeartbeats 4000000 in
set_option maxRecDepth 20000 in
theorem k_X6_does_q (l : Launch) (G : va_G) (Y : Nat → Nat) (a b k n : Nat) (ρ : Nat → Nat) (hI : Inv ρ) (g0 : b < 2 ^ 31) (g1 : k < 2 ^ 31) (g2 : n < 2 ^ 31) : CtI l yX6_does cX6_does 5 .boolean 3 70 [.ref a, .int (nI 113), .int (nI b), .int (nI k), .int (nI n)] [[(a, .inl (Y 0, 140, .inl (rowF ρ)))]] (fun r sg => r = b2i (decide (tAsk ρ b k n = 0)) ∧ sg = [[(a, .inl (Y 0, 140, .inl (rowF (dAsk ρ b k n))))]]) G Y := by
  refine x_ofI (by decide) (Nat.le_of_ble_eq_true rfl) (fun p e s m args below meth c A ls Q M hK hZ hw hl hret => ?_)
  obtain ⟨hx, hb, -⟩ := id M
  have hl : lv_has ls 5 [(0, .ref a), (1, .int (nI 113)), (2, .int (nI b)), (3, .int (nI k)), (4, .int (nI n))] := hl
  have := hI.n6
  have := hI.over
  have := hI.keep
  have := hI.stepp
  refine lv_iload_n hx hb dX6_does_0 rfl (lv_at hl 1 rfl) ?_
  refine lv_lookup (tgt := 134) hx hb dX6_does_1 (by decide) rfl (by decide) ?_
  refine lv_aload_n hx hb dX6_does_134 rfl (lv_at hl 0 rfl) ?_
  refine lv_iload_n hx hb dX6_does_135 rfl (lv_at hl 2 rfl) ?_
  refine lv_iload_n hx hb dX6_does_136 rfl (lv_at hl 3 rfl) ?_
  refine lv_iload hx hb dX6_does_137 (lv_at hl 4 rfl) ?_
  refine x_cSI (As := [.ref a, .int (nI b), .int (nI k), .int (nI n)]) (k_X6_whyNotAsk l G Y a ρ (nI b) (nI k) (nI n) (hI)) cw_X6_125 [0] M hK hZ hw hl.1 rfl (by decide) ⟨by decide, by decide⟩ ⟨Nat.zero_le _, Nat.zero_le _⟩ rfl rfl (Nat.le_of_ble_eq_true rfl) dX6_does_139 (fun r sg h_1 H locs hw => ?_)
  obtain ⟨rfl, rfl⟩ := h_1
  have hw : xW G A s.heap [[(a, .inl (Y 0, 140, .inl (rowF ρ)))]] H locs := hw
  refine x_topN (n := (tAsk ρ b k n)) (congrArg nI (by unfold tAsk; rw [nI_toInt g0, nI_toInt g1, nI_toInt g2])) ?_
  have hle : tAsk ρ b k n ≤ 3 := whyAsk_le
  refine x_zne M (tgt := 160) (by omega) dX6_does_142 (by decide) (fun c_2 => ?_) (fun c_2 => ?_)
  · refine lv_iconst (v := (nI 0)) hx hb dX6_does_160 (by decide) ?_
    exact hret _ _ _ (nI 0) _ _ dX6_does_161 hw rfl rfl ⟨b2i_f (decide_eq_false (by omega)), by rw [show dAsk ρ b k n = ρ from if_neg (by omega)]⟩
  have hok := okN_ask (ρ := ρ) (show tAsk ρ b k n = 0 by omega)
  refine lv_aload_n hx hb dX6_does_145 rfl (lv_at hl 0 rfl) ?_
  refine lv_iload_n hx hb dX6_does_146 rfl (lv_at hl 2 rfl) ?_
  refine lv_iload_n hx hb dX6_does_147 rfl (lv_at hl 3 rfl) ?_
  refine lv_iload hx hb dX6_does_148 (lv_at hl 4 rfl) ?_
  refine x_cSI (As := [.ref a, .int (nI b), .int (nI k), .int (nI n)]) (k_X6_askOn l G Y a b k n ρ (hI) (by omega) (by omega) (by omega)) cw_X6_128 [0] M hK hZ hw hl.1 rfl (by decide) ⟨by decide, by decide⟩ ⟨Nat.zero_le _, Nat.zero_le _⟩ rfl rfl (Nat.le_of_ble_eq_true rfl) dX6_does_150 (fun r sg h_3 H locs hw => ?_)
  obtain ⟨rfl, rfl⟩ := h_3
  have hw : xW G A s.heap [[(a, .inl (Y 0, 140, .inl (rowF (mAsk ρ b k n))))]] H locs := hw
  have q_4 : act (mAsk ρ b k n) b ≤ 243 := ask_le hI (by omega) (by omega) (by omega)
  refine x_zlt M (tgt := 160) (by omega) dX6_does_153 (by decide) ?_
  refine lv_iconst (v := (nI 1)) hx hb dX6_does_156 (by decide) ?_
  refine lv_goto (tgt := 161) hx hb dX6_does_157 (by decide) ?_
  exact hret _ _ _ (nI 1) _ _ dX6_does_161 hw rfl rfl ⟨b2i_t (decide_eq_true (by omega)), by rw [show dAsk ρ b k n = mAsk ρ b k n from if_pos (by omega)]⟩
set_option maxHeartbeats 4000000 in
set_option maxRecDepth 20000 in
theorem k_X6_does_w (l : Launch) (G : va_G) (Y : Nat → Nat) (a b y z : Nat) (ρ : Nat → Nat) (hI : Inv ρ) (g0 : b < 2 ^ 31) : CtI l yX6_does cX6_does 5 .boolean 3 74 [.ref a, .int (nI 119), .int (nI b), .int (nI y), .int (nI z)] [[(a, .inl (Y 0, 140, .inl (rowF ρ)))]] (fun r sg => r = b2i (decide (tBid ρ b = 0)) ∧ sg = [[(a, .inl (Y 0, 140, .inl (rowF (dBid ρ b))))]]) G Y := by
  refine x_ofI (by decide) (Nat.le_of_ble_eq_true rfl) (fun p e s m args below meth c A ls Q M hK hZ hw hl hret => ?_)
  obtain ⟨hx, hb, -⟩ := id M
  have hl : lv_has ls 5 [(0, .ref a), (1, .int (nI 119)), (2, .int (nI b)), (3, .int (nI y)), (4, .int (nI z))] := hl
  have := hI.n6
  have := hI.over
  have := hI.keep
  have := hI.stepp
  refine lv_iload_n hx hb dX6_does_0 rfl (lv_at hl 1 rfl) ?_
  refine lv_lookup (tgt := 162) hx hb dX6_does_1 (by decide) rfl (by decide) ?_
  refine lv_aload_n hx hb dX6_does_162 rfl (lv_at hl 0 rfl) ?_
  refine lv_iload_n hx hb dX6_does_163 rfl (lv_at hl 2 rfl) ?_
  refine x_cSI (As := [.ref a, .int (nI b)]) (k_X6_isBidder l G Y a ρ (nI b) (hI)) cw_X6_79 [0] M hK hZ hw hl.1 rfl (by decide) ⟨by decide, by decide⟩ ⟨Nat.zero_le _, Nat.zero_le _⟩ rfl rfl (Nat.le_of_ble_eq_true rfl) dX6_does_164 (fun r sg h_1 H locs hw => ?_)
  obtain ⟨rfl, rfl⟩ := h_1
  have hw : xW G A s.heap [[(a, .inl (Y 0, 140, .inl (rowF ρ)))]] H locs := hw
  refine x_beq M (tgt := 177) dX6_does_167 (by decide) (fun c_2 => ?_) (fun c_2 => ?_)
  · refine lv_iconst (v := (nI 0)) hx hb dX6_does_177 (by decide) ?_
    exact hret _ _ _ (nI 0) _ _ dX6_does_178 hw rfl rfl ⟨b2i_f (decide_eq_false (fun z => by have := (okN_bid z).1; have := pzF c_2 g0; omega)), by rw [show dBid ρ b = ρ from if_neg (fun z => by have := (okN_bid z).1; have := pzF c_2 g0; omega)]⟩
  have hz := pzT c_2 g0
  refine lv_aload_n hx hb dX6_does_170 rfl (lv_at hl 0 rfl) ?_
  refine lv_iconst (v := (nI 1)) hx hb dX6_does_171 (by decide) ?_
  refine x_iald M hK hw 0 0 rfl rfl (by decide) (by decide) dX6_does_172 ?_
  refine x_topN (n := ρ 1) rfl ?_
  have q_3 : ρ 1 ≤ 1 := hI.over
  refine lv_iconst (v := (nI 1)) hx hb dX6_does_173 (by decide) ?_
  refine x_cne M (tgt := 179) (by omega) (by decide) dX6_does_174 (by decide) (fun c_4 => ?_) (fun c_4 => ?_)
  · refine lv_aload_n hx hb dX6_does_179 rfl (lv_at hl 0 rfl) ?_
    refine lv_iload_n hx hb dX6_does_180 rfl (lv_at hl 2 rfl) ?_
    refine x_cSI (As := [.ref a, .int (nI b)]) (k_X6_bidOn l G Y a b ρ (hI) (by omega)) cw_X6_131 [0] M hK hZ hw hl.1 rfl (by decide) ⟨by decide, by decide⟩ ⟨Nat.zero_le _, Nat.zero_le _⟩ rfl rfl (Nat.le_of_ble_eq_true rfl) dX6_does_181 (fun r sg h_5 H locs hw => ?_)
    obtain ⟨rfl, rfl⟩ := h_5
    have hw : xW G A s.heap [[(a, .inl (Y 0, 140, .inl (rowF (mBid ρ b))))]] H locs := hw
    refine lv_pop hx hb dX6_does_184 rfl ?_
    refine lv_iconst (v := (nI 1)) hx hb dX6_does_185 (by decide) ?_
    exact hret _ _ _ (nI 1) _ _ dX6_does_186 hw rfl rfl ⟨b2i_t (decide_eq_true (tBid_ok (by omega) (by omega))), by rw [show dBid ρ b = mBid ρ b from if_pos (tBid_ok (by omega) (by omega))]⟩
  refine lv_iconst (v := (nI 0)) hx hb dX6_does_177 (by decide) ?_
  exact hret _ _ _ (nI 0) _ _ dX6_does_178 hw rfl rfl ⟨b2i_f (decide_eq_false (fun z => by have := (okN_bid z).2; omega)), by rw [show dBid ρ b = ρ from if_neg (fun z => by have := (okN_bid z).2; omega)]⟩
set_option maxHeartbeats 4000000 in
set_option maxRecDepth 20000 in
theorem k_X6_does_c (l : Launch) (G : va_G) (Y : Nat → Nat) (a x y z : Nat) (ρ : Nat → Nat) (hI : Inv ρ) : CtI l yX6_does cX6_does 5 .boolean 4 88 [.ref a, .int (nI 99), .int (nI x), .int (nI y), .int (nI z)] [[(a, .inl (Y 0, 140, .inl (rowF ρ)))]] (fun r sg => r = b2i (decide (whyClose ρ = 0)) ∧ sg = [[(a, .inl (Y 0, 140, .inl (rowF (dClose ρ))))]]) G Y := by
  refine x_ofI (by decide) (Nat.le_of_ble_eq_true rfl) (fun p e s m args below meth c A ls Q M hK hZ hw hl hret => ?_)
  obtain ⟨hx, hb, -⟩ := id M
  have hl : lv_has ls 5 [(0, .ref a), (1, .int (nI 99)), (2, .int (nI x)), (3, .int (nI y)), (4, .int (nI z))] := hl
  have := hI.n6
  have := hI.over
  have := hI.keep
  have := hI.stepp
  refine lv_iload_n hx hb dX6_does_0 rfl (lv_at hl 1 rfl) ?_
  refine lv_lookup (tgt := 187) hx hb dX6_does_1 (by decide) rfl (by decide) ?_
  refine lv_aload_n hx hb dX6_does_187 rfl (lv_at hl 0 rfl) ?_
  refine lv_iconst (v := (nI 1)) hx hb dX6_does_188 (by decide) ?_
  refine x_iald M hK hw 0 0 rfl rfl (by decide) (by decide) dX6_does_189 ?_
  refine x_topN (n := ρ 1) rfl ?_
  have q_1 : ρ 1 ≤ 1 := hI.over
  refine x_zne M (tgt := 204) (by omega) dX6_does_190 (by decide) (fun c_2 => ?_) (fun c_2 => ?_)
  · refine lv_iconst (v := (nI 0)) hx hb dX6_does_204 (by decide) ?_
    exact hret _ _ _ (nI 0) _ _ dX6_does_205 hw rfl rfl ⟨b2i_f (decide_eq_false (fun z => by have := ok_close z; omega)), by rw [show dClose ρ = ρ from if_neg (fun z => by have := ok_close z; omega)]⟩
  refine lv_aload_n hx hb dX6_does_193 rfl (lv_at hl 0 rfl) ?_
  refine x_cSI (As := [.ref a]) (k_X6_closeOn l G Y a ρ (hI)) cw_X6_134 [0] M hK hZ hw hl.1 rfl (by decide) ⟨by decide, by decide⟩ ⟨Nat.zero_le _, Nat.zero_le _⟩ rfl rfl (Nat.le_of_ble_eq_true rfl) dX6_does_194 (fun r sg h_3 H locs hw => ?_)
  obtain ⟨rfl, rfl⟩ := h_3
  have hw : xW G A s.heap [[(a, .inl (Y 0, 140, .inl (rowF (mClose ρ))))]] H locs := hw
  have q_4 : scarce (cl1 ρ) ≤ 3 := scarce_le
  refine x_zlt M (tgt := 204) (by omega) dX6_does_197 (by decide) ?_
  refine lv_iconst (v := (nI 1)) hx hb dX6_does_200 (by decide) ?_
  refine lv_goto (tgt := 205) hx hb dX6_does_201 (by decide) ?_
  exact hret _ _ _ (nI 1) _ _ dX6_does_205 hw rfl rfl ⟨b2i_t (decide_eq_true (show whyClose ρ = 0 by unfold whyClose; rw [if_pos (by omega)])), by rw [show dClose ρ = mClose ρ from if_pos (show whyClose ρ = 0 by unfold whyClose; rw [if_pos (by omega)])]⟩
set_option maxHeartbeats 4000000 in
set_option maxRecDepth 20000 in
theorem k_X6_command (l : Launch) (G : va_G) (Y : Nat → Nat) (mo rf tx sz nw tr dy ac kp ik td ch sp ou : Nat) (ρ : Nat → Nat) (w y1 y2 y3 y4 : Nat) (hI : Inv ρ) (hw9 : w < 10) (ha : y1 < 10) (hbb : y2 < 10) (hcc : y3 < 10) (hd : y4 < 10) : CtI l yX6_command cX6_command 6 .boolean 5 112 [.ref mo, .int (nI w), .int (nI y1), .int (nI y2), .int (nI y3), .int (nI y4)] [[(mo, .inr (5, [.int (nI rf), .ref tx, .int (nI sz), .ref nw, .ref tr, .ref dy, .int (nI ac), .ref kp, .ref ik, .ref td, .ref ch, .int (nI sp), .int (nI ou)]))], [(tr, .inl (Y 0, 140, .inl (rowF ρ)))]] (fun r sg => r = b2i (cOk ρ w y1 y2 y3 y4) ∧ sg = [[(mo, .inr (5, [.int (nI rf), .ref tx, .int (nI sz), .ref nw, .ref tr, .ref dy, .int (nI ac), .ref kp, .ref ik, .ref td, .ref ch, .int (nI sp), .int (nI ou)]))], [(tr, .inl (Y 0, 140, .inl (rowF (cRow ρ w y1 y2 y3 y4))))]]) G Y := by
  refine x_ofI (by decide) (Nat.le_of_ble_eq_true rfl) (fun p e s m args below meth c A ls Q M hK hZ hw hl hret => ?_)
  obtain ⟨hx, hb, -⟩ := id M
  have hl : lv_has ls 6 [(0, .ref mo), (1, .int (nI w)), (2, .int (nI y1)), (3, .int (nI y2)), (4, .int (nI y3)), (5, .int (nI y4))] := hl
  have := hI.n6
  have := hI.over
  have := hI.keep
  have := hI.stepp
  refine lv_iload_n hx hb dX6_command_0 rfl (lv_at hl 1 rfl) ?_
  rcases (show w = 0 ∨ w = 1 ∨ w = 2 ∨ w = 3 ∨ w = 4 ∨ w = 5 ∨ w = 6 ∨ w = 7 ∨ w = 8 ∨ w = 9 by omega) with e_1 | e_1 | e_1 | e_1 | e_1 | e_1 | e_1 | e_1 | e_1 | e_1
  · refine x_topN (n := 0) (congrArg nI e_1) ?_
    refine lv_tableOut (tgt := 352) hx hb dX6_command_1 (by decide) (by decide) ?_
    refine lv_iconst (v := (nI 0)) hx hb dX6_command_352 (by decide) ?_
    have hR : cRow ρ w y1 y2 y3 y4 = ρ := by clear hret hw hl M hK hZ hx hb; unfold cRow; rw [if_neg (by omega), if_neg (by omega), if_neg (by omega), if_neg (by omega), if_neg (by omega), if_neg (by omega)]
    exact hret _ _ _ (nI 0) _ _ dX6_command_353 hw rfl rfl ⟨b2i_f (by clear hret hw hl M hK hZ hx hb; unfold cOk; rw [if_neg (by omega), if_neg (by omega), if_neg (by omega), if_neg (by omega), if_neg (by omega), if_neg (by omega), if_neg (by omega), if_neg (by omega), if_neg (by omega)]), by rw [hR]⟩
  · refine x_topN (n := 1) (congrArg nI e_1) ?_
    refine lv_tableIn (tgt := 52) hx hb dX6_command_1 (by decide) (by decide) rfl (by decide) ?_
    refine lv_iload hx hb dX6_command_52 (lv_at hl 5 rfl) ?_
    refine x_zne M (tgt := 77) (by omega) dX6_command_54 (by decide) (fun c_2 => ?_) (fun c_2 => ?_)
    · refine lv_iconst (v := (nI 0)) hx hb dX6_command_77 (by decide) ?_
      have hR : cRow ρ w y1 y2 y3 y4 = ρ := by clear hret hw hl M hK hZ hx hb; unfold cRow; rw [if_pos (by omega)]; rw [if_neg (by first | assumption | omega)]
      exact hret _ _ _ (nI 0) _ _ dX6_command_78 hw rfl rfl ⟨b2i_f (by clear hret hw hl M hK hZ hx hb; unfold cOk; rw [if_pos (by omega)]; exact decide_eq_false (by omega)), by rw [hR]⟩
    refine lv_aload_n hx hb dX6_command_57 rfl (lv_at hl 0 rfl) ?_
    refine x_get M hK hw 0 0 rfl rfl ff_X6_16 rfl dX6_command_58 ?_
    refine lv_bipush (v := (nI 113)) hx hb dX6_command_61 (by decide) ?_
    refine lv_iload_n hx hb dX6_command_63 rfl (lv_at hl 2 rfl) ?_
    refine lv_iload_n hx hb dX6_command_64 rfl (lv_at hl 3 rfl) ?_
    refine lv_iload hx hb dX6_command_65 (lv_at hl 4 rfl) ?_
    refine x_cSI (As := [.ref tr, .int (nI 113), .int (nI y1), .int (nI y2), .int (nI y3)]) (k_X6_does_q l G Y tr y1 y2 y3 ρ (hI) (by omega) (by omega) (by omega)) cw_X6_143 [1] M hK hZ hw hl.1 rfl (by decide) ⟨by decide, by decide⟩ ⟨Nat.zero_le _, Nat.zero_le _⟩ rfl rfl (Nat.le_of_ble_eq_true rfl) dX6_command_67 (fun r sg h_3 H locs hw => ?_)
    obtain ⟨rfl, rfl⟩ := h_3
    have hw : xW G A s.heap [[(mo, .inr (5, [.int (nI rf), .ref tx, .int (nI sz), .ref nw, .ref tr, .ref dy, .int (nI ac), .ref kp, .ref ik, .ref td, .ref ch, .int (nI sp), .int (nI ou)]))], [(tr, .inl (Y 0, 140, .inl (rowF (dAsk ρ y1 y2 y3))))]] H locs := hw
    refine x_beq M (tgt := 77) dX6_command_70 (by decide) (fun c_4 => ?_) (fun c_4 => ?_)
    · refine lv_iconst (v := (nI 0)) hx hb dX6_command_77 (by decide) ?_
      have hR : cRow ρ w y1 y2 y3 y4 = dAsk ρ y1 y2 y3 := by clear hret hw hl M hK hZ hx hb; unfold cRow; rw [if_pos (by omega)]; rw [if_pos (by first | assumption | omega)]
      simp only [decide_eq_true_eq, decide_eq_false_iff_not] at c_4
      exact hret _ _ _ (nI 0) _ _ dX6_command_78 hw rfl rfl ⟨b2i_f (by clear hret hw hl M hK hZ hx hb; unfold cOk; rw [if_pos (by omega)]; exact decide_eq_false (by omega)), by rw [hR]⟩
    refine lv_iconst (v := (nI 1)) hx hb dX6_command_73 (by decide) ?_
    refine lv_goto (tgt := 78) hx hb dX6_command_74 (by decide) ?_
    have hR : cRow ρ w y1 y2 y3 y4 = dAsk ρ y1 y2 y3 := by clear hret hw hl M hK hZ hx hb; unfold cRow; rw [if_pos (by omega)]; rw [if_pos (by first | assumption | omega)]
    simp only [decide_eq_true_eq, decide_eq_false_iff_not] at c_4
    exact hret _ _ _ (nI 1) _ _ dX6_command_78 hw rfl rfl ⟨b2i_t (by clear hret hw hl M hK hZ hx hb; unfold cOk; rw [if_pos (by omega)]; exact decide_eq_true (by omega)), by rw [hR]⟩
  · refine x_topN (n := 2) (congrArg nI e_1) ?_
    refine lv_tableIn (tgt := 79) hx hb dX6_command_1 (by decide) (by decide) rfl (by decide) ?_
    refine lv_iload_n hx hb dX6_command_79 rfl (lv_at hl 3 rfl) ?_
    refine lv_iload hx hb dX6_command_80 (lv_at hl 4 rfl) ?_
    refine x_iadd M (n := y2 + y3) dX6_command_82 rfl ?_
    refine lv_iload hx hb dX6_command_83 (lv_at hl 5 rfl) ?_
    refine x_iadd M (n := y2 + y3 + y4) dX6_command_85 rfl ?_
    refine x_zne M (tgt := 108) (by omega) dX6_command_86 (by decide) (fun c_5 => ?_) (fun c_5 => ?_)
    · refine lv_iconst (v := (nI 0)) hx hb dX6_command_108 (by decide) ?_
      have hR : cRow ρ w y1 y2 y3 y4 = ρ := by clear hret hw hl M hK hZ hx hb; unfold cRow; rw [if_neg (by omega), if_pos (by omega)]; rw [if_neg (by first | assumption | omega)]
      exact hret _ _ _ (nI 0) _ _ dX6_command_109 hw rfl rfl ⟨b2i_f (by clear hret hw hl M hK hZ hx hb; unfold cOk; rw [if_neg (by omega), if_pos (by omega)]; exact decide_eq_false (by omega)), by rw [hR]⟩
    refine lv_aload_n hx hb dX6_command_89 rfl (lv_at hl 0 rfl) ?_
    refine x_get M hK hw 0 0 rfl rfl ff_X6_16 rfl dX6_command_90 ?_
    refine lv_bipush (v := (nI 119)) hx hb dX6_command_93 (by decide) ?_
    refine lv_iload_n hx hb dX6_command_95 rfl (lv_at hl 2 rfl) ?_
    refine lv_iconst (v := (nI 0)) hx hb dX6_command_96 (by decide) ?_
    refine lv_iconst (v := (nI 0)) hx hb dX6_command_97 (by decide) ?_
    refine x_cSI (As := [.ref tr, .int (nI 119), .int (nI y1), .int (nI 0), .int (nI 0)]) (k_X6_does_w l G Y tr y1 0 0 ρ (hI) (by omega)) cw_X6_143 [1] M hK hZ hw hl.1 rfl (by decide) ⟨by decide, by decide⟩ ⟨Nat.zero_le _, Nat.zero_le _⟩ rfl rfl (Nat.le_of_ble_eq_true rfl) dX6_command_98 (fun r sg h_6 H locs hw => ?_)
    obtain ⟨rfl, rfl⟩ := h_6
    have hw : xW G A s.heap [[(mo, .inr (5, [.int (nI rf), .ref tx, .int (nI sz), .ref nw, .ref tr, .ref dy, .int (nI ac), .ref kp, .ref ik, .ref td, .ref ch, .int (nI sp), .int (nI ou)]))], [(tr, .inl (Y 0, 140, .inl (rowF (dBid ρ y1))))]] H locs := hw
    refine x_beq M (tgt := 108) dX6_command_101 (by decide) (fun c_7 => ?_) (fun c_7 => ?_)
    · refine lv_iconst (v := (nI 0)) hx hb dX6_command_108 (by decide) ?_
      have hR : cRow ρ w y1 y2 y3 y4 = dBid ρ y1 := by clear hret hw hl M hK hZ hx hb; unfold cRow; rw [if_neg (by omega), if_pos (by omega)]; rw [if_pos (by first | assumption | omega)]
      simp only [decide_eq_true_eq, decide_eq_false_iff_not] at c_7
      exact hret _ _ _ (nI 0) _ _ dX6_command_109 hw rfl rfl ⟨b2i_f (by clear hret hw hl M hK hZ hx hb; unfold cOk; rw [if_neg (by omega), if_pos (by omega)]; exact decide_eq_false (by omega)), by rw [hR]⟩
    refine lv_iconst (v := (nI 1)) hx hb dX6_command_104 (by decide) ?_
    refine lv_goto (tgt := 109) hx hb dX6_command_105 (by decide) ?_
    have hR : cRow ρ w y1 y2 y3 y4 = dBid ρ y1 := by clear hret hw hl M hK hZ hx hb; unfold cRow; rw [if_neg (by omega), if_pos (by omega)]; rw [if_pos (by first | assumption | omega)]
    simp only [decide_eq_true_eq, decide_eq_false_iff_not] at c_7
    exact hret _ _ _ (nI 1) _ _ dX6_command_109 hw rfl rfl ⟨b2i_t (by clear hret hw hl M hK hZ hx hb; unfold cOk; rw [if_neg (by omega), if_pos (by omega)]; exact decide_eq_true (by omega)), by rw [hR]⟩
  · refine x_topN (n := 3) (congrArg nI e_1) ?_
    refine lv_tableIn (tgt := 110) hx hb dX6_command_1 (by decide) (by decide) rfl (by decide) ?_
    refine lv_iload_n hx hb dX6_command_110 rfl (lv_at hl 2 rfl) ?_
    refine lv_iload_n hx hb dX6_command_111 rfl (lv_at hl 3 rfl) ?_
    refine x_iadd M (n := y1 + y2) dX6_command_112 rfl ?_
    refine lv_iload hx hb dX6_command_113 (lv_at hl 4 rfl) ?_
    refine x_iadd M (n := y1 + y2 + y3) dX6_command_115 rfl ?_
    refine lv_iload hx hb dX6_command_116 (lv_at hl 5 rfl) ?_
    refine x_iadd M (n := y1 + y2 + y3 + y4) dX6_command_118 rfl ?_
    refine x_zne M (tgt := 141) (by omega) dX6_command_119 (by decide) (fun c_8 => ?_) (fun c_8 => ?_)
    · refine lv_iconst (v := (nI 0)) hx hb dX6_command_141 (by decide) ?_
      have hR : cRow ρ w y1 y2 y3 y4 = ρ := by clear hret hw hl M hK hZ hx hb; unfold cRow; rw [if_neg (by omega), if_neg (by omega), if_pos (by omega)]; rw [if_neg (by first | assumption | omega)]
      exact hret _ _ _ (nI 0) _ _ dX6_command_142 hw rfl rfl ⟨b2i_f (by clear hret hw hl M hK hZ hx hb; unfold cOk; rw [if_neg (by omega), if_neg (by omega), if_pos (by omega)]; exact decide_eq_false (by omega)), by rw [hR]⟩
    refine lv_aload_n hx hb dX6_command_122 rfl (lv_at hl 0 rfl) ?_
    refine x_get M hK hw 0 0 rfl rfl ff_X6_16 rfl dX6_command_123 ?_
    refine lv_bipush (v := (nI 99)) hx hb dX6_command_126 (by decide) ?_
    refine lv_iconst (v := (nI 0)) hx hb dX6_command_128 (by decide) ?_
    refine lv_iconst (v := (nI 0)) hx hb dX6_command_129 (by decide) ?_
    refine lv_iconst (v := (nI 0)) hx hb dX6_command_130 (by decide) ?_
    refine x_cSI (As := [.ref tr, .int (nI 99), .int (nI 0), .int (nI 0), .int (nI 0)]) (k_X6_does_c l G Y tr 0 0 0 ρ (hI)) cw_X6_143 [1] M hK hZ hw hl.1 rfl (by decide) ⟨by decide, by decide⟩ ⟨Nat.zero_le _, Nat.zero_le _⟩ rfl rfl (Nat.le_of_ble_eq_true rfl) dX6_command_131 (fun r sg h_9 H locs hw => ?_)
    obtain ⟨rfl, rfl⟩ := h_9
    have hw : xW G A s.heap [[(mo, .inr (5, [.int (nI rf), .ref tx, .int (nI sz), .ref nw, .ref tr, .ref dy, .int (nI ac), .ref kp, .ref ik, .ref td, .ref ch, .int (nI sp), .int (nI ou)]))], [(tr, .inl (Y 0, 140, .inl (rowF (dClose ρ))))]] H locs := hw
    refine x_beq M (tgt := 141) dX6_command_134 (by decide) (fun c_10 => ?_) (fun c_10 => ?_)
    · refine lv_iconst (v := (nI 0)) hx hb dX6_command_141 (by decide) ?_
      have hR : cRow ρ w y1 y2 y3 y4 = dClose ρ := by clear hret hw hl M hK hZ hx hb; unfold cRow; rw [if_neg (by omega), if_neg (by omega), if_pos (by omega)]; rw [if_pos (by first | assumption | omega)]
      simp only [decide_eq_true_eq, decide_eq_false_iff_not] at c_10
      exact hret _ _ _ (nI 0) _ _ dX6_command_142 hw rfl rfl ⟨b2i_f (by clear hret hw hl M hK hZ hx hb; unfold cOk; rw [if_neg (by omega), if_neg (by omega), if_pos (by omega)]; exact decide_eq_false (by omega)), by rw [hR]⟩
    refine lv_iconst (v := (nI 1)) hx hb dX6_command_137 (by decide) ?_
    refine lv_goto (tgt := 142) hx hb dX6_command_138 (by decide) ?_
    have hR : cRow ρ w y1 y2 y3 y4 = dClose ρ := by clear hret hw hl M hK hZ hx hb; unfold cRow; rw [if_neg (by omega), if_neg (by omega), if_pos (by omega)]; rw [if_pos (by first | assumption | omega)]
    simp only [decide_eq_true_eq, decide_eq_false_iff_not] at c_10
    exact hret _ _ _ (nI 1) _ _ dX6_command_142 hw rfl rfl ⟨b2i_t (by clear hret hw hl M hK hZ hx hb; unfold cOk; rw [if_neg (by omega), if_neg (by omega), if_pos (by omega)]; exact decide_eq_true (by omega)), by rw [hR]⟩
  · refine x_topN (n := 4) (congrArg nI e_1) ?_
    refine lv_tableIn (tgt := 143) hx hb dX6_command_1 (by decide) (by decide) rfl (by decide) ?_
    refine lv_aload_n hx hb dX6_command_143 rfl (lv_at hl 0 rfl) ?_
    refine x_get M hK hw 0 0 rfl rfl ff_X6_16 rfl dX6_command_144 ?_
    refine lv_bipush (v := (nI 118)) hx hb dX6_command_147 (by decide) ?_
    refine lv_iload_n hx hb dX6_command_149 rfl (lv_at hl 2 rfl) ?_
    refine lv_iload_n hx hb dX6_command_150 rfl (lv_at hl 3 rfl) ?_
    refine lv_bipush (v := (nI 10)) hx hb dX6_command_151 (by decide) ?_
    refine lv_bipush (v := (nI 10)) hx hb dX6_command_153 (by decide) ?_
    refine lv_iload hx hb dX6_command_155 (lv_at hl 4 rfl) ?_
    refine x_imul M (n := 10 * y3) dX6_command_157 (by omega) ?_
    refine lv_iload hx hb dX6_command_158 (lv_at hl 5 rfl) ?_
    refine x_iadd M (n := 10 * y3 + y4) dX6_command_160 rfl ?_
    refine x_imul M (n := 100 * y3 + 10 * y4) dX6_command_161 (by omega) ?_
    refine x_topN (n := (10 * (10 * y3 + y4))) (congrArg nI (by omega)) ?_
    refine x_cSI (As := [.ref tr, .int (nI 118), .int (nI y1), .int (nI y2), .int (nI (10 * (10 * y3 + y4)))]) (k_X6_does_v l G Y tr y1 y2 (10 * (10 * y3 + y4)) ρ (hI) (by omega) (by omega) (by omega)) cw_X6_143 [1] M hK hZ hw hl.1 rfl (by decide) ⟨by decide, by decide⟩ ⟨Nat.zero_le _, Nat.zero_le _⟩ rfl rfl (Nat.le_of_ble_eq_true rfl) dX6_command_162 (fun r sg h_11 H locs hw => ?_)
    obtain ⟨rfl, rfl⟩ := h_11
    have hw : xW G A s.heap [[(mo, .inr (5, [.int (nI rf), .ref tx, .int (nI sz), .ref nw, .ref tr, .ref dy, .int (nI ac), .ref kp, .ref ik, .ref td, .ref ch, .int (nI sp), .int (nI ou)]))], [(tr, .inl (Y 0, 140, .inl (rowF (dVal ρ y1 y2 (10 * (10 * y3 + y4))))))]] H locs := hw
    refine x_topI (y := b2i (decide (tVal ρ y1 y2 (10 * (10 * y3 + y4)) = 0))) rfl ?_
    have hR : cRow ρ w y1 y2 y3 y4 = dVal ρ y1 y2 (10 * (10 * y3 + y4)) := by clear hret hw hl M hK hZ hx hb; unfold cRow; rw [if_neg (by omega), if_neg (by omega), if_neg (by omega), if_pos (by omega)]
    exact hret _ _ _ (b2i (decide (tVal ρ y1 y2 (10 * (10 * y3 + y4)) = 0))) _ _ dX6_command_165 hw (b2i_nar _) rfl ⟨congrArg b2i (by clear hret hw hl M hK hZ hx hb; unfold cOk; rw [if_neg (by omega), if_neg (by omega), if_neg (by omega), if_pos (by omega)]), by rw [hR]⟩
  · refine x_topN (n := 5) (congrArg nI e_1) ?_
    refine lv_tableIn (tgt := 166) hx hb dX6_command_1 (by decide) (by decide) rfl (by decide) ?_
    refine lv_iload_n hx hb dX6_command_166 rfl (lv_at hl 3 rfl) ?_
    refine x_zgt M (tgt := 185) (by omega) dX6_command_167 (by decide) (fun c_12 => ?_) (fun c_12 => ?_)
    · refine lv_iconst (v := (nI 0)) hx hb dX6_command_185 (by decide) ?_
      have hR : cRow ρ w y1 y2 y3 y4 = ρ := by clear hret hw hl M hK hZ hx hb; unfold cRow; rw [if_neg (by omega), if_neg (by omega), if_neg (by omega), if_neg (by omega), if_pos (by omega)]; rw [if_neg (by first | assumption | omega)]
      exact hret _ _ _ (nI 0) _ _ dX6_command_186 hw rfl rfl ⟨b2i_f (by clear hret hw hl M hK hZ hx hb; unfold cOk; rw [if_neg (by omega), if_neg (by omega), if_neg (by omega), if_neg (by omega), if_pos (by omega)]; exact decide_eq_false (by omega)), by rw [hR]⟩
    refine lv_iload_n hx hb dX6_command_170 rfl (lv_at hl 2 rfl) ?_
    refine lv_bipush (v := (nI 10)) hx hb dX6_command_171 (by decide) ?_
    refine lv_iload hx hb dX6_command_173 (lv_at hl 4 rfl) ?_
    refine x_imul M (n := 10 * y3) dX6_command_175 (by omega) ?_
    refine lv_iload hx hb dX6_command_176 (lv_at hl 5 rfl) ?_
    refine x_iadd M (n := 10 * y3 + y4) dX6_command_178 rfl ?_
    refine x_cSI (As := [.int (nI y1), .int (nI (10 * y3 + y4))]) (k_X6_isSetting l G Y (nI y1) (nI (10 * y3 + y4))) cw_X6_188 [] M hK hZ hw hl.1 rfl (by decide) ⟨by decide, by decide⟩ ⟨Nat.zero_le _, Nat.zero_le _⟩ rfl rfl (Nat.le_of_ble_eq_true rfl) dX6_command_179 (fun r sg h_13 H locs hw => ?_)
    obtain ⟨rfl, rfl⟩ := h_13
    have hw : xW G A s.heap [[(mo, .inr (5, [.int (nI rf), .ref tx, .int (nI sz), .ref nw, .ref tr, .ref dy, .int (nI ac), .ref kp, .ref ik, .ref td, .ref ch, .int (nI sp), .int (nI ou)]))], [(tr, .inl (Y 0, 140, .inl (rowF ρ)))]] H locs := hw
    refine x_topI (y := b2i (decide (tSet y1 (10 * y3 + y4) = 0))) (congrArg b2i (isSet_eq (by omega) (by omega))) ?_
    refine x_bne M (tgt := 187) dX6_command_182 (by decide) (fun c_14 => ?_) (fun c_14 => ?_)
    · have ht : tSet y1 (10 * y3 + y4) = 0 := by clear hret hw hl M hK hZ hx hb; simpa using c_14
      have hts := okN_set ht
      have hy01 : y1 = 0 ∨ y1 = 1 := (Nat.eq_zero_or_pos y1).elim Or.inl (fun z => Or.inr (hts.2 (by omega)).1)
      refine lv_aload_n hx hb dX6_command_187 rfl (lv_at hl 0 rfl) ?_
      refine x_get M hK hw 0 0 rfl rfl ff_X6_16 rfl dX6_command_188 ?_
      refine lv_iconst (v := (nI 2)) hx hb dX6_command_191 (by decide) ?_
      refine lv_iload_n hx hb dX6_command_192 rfl (lv_at hl 2 rfl) ?_
      refine x_iadd M (n := 2 + y1) dX6_command_193 rfl ?_
      refine lv_bipush (v := (nI 10)) hx hb dX6_command_194 (by decide) ?_
      refine lv_iload hx hb dX6_command_196 (lv_at hl 4 rfl) ?_
      refine x_imul M (n := 10 * y3) dX6_command_198 (by omega) ?_
      refine lv_iload hx hb dX6_command_199 (lv_at hl 5 rfl) ?_
      refine x_iadd M (n := 10 * y3 + y4) dX6_command_201 rfl ?_
      refine x_iast M hK hw 1 0 rfl rfl (by omega) (by decide) dX6_command_202 (fun H locs hw => ?_)
      rw [upd_row] at hw
      have hw : xW G A s.heap [[(mo, .inr (5, [.int (nI rf), .ref tx, .int (nI sz), .ref nw, .ref tr, .ref dy, .int (nI ac), .ref kp, .ref ik, .ref td, .ref ch, .int (nI sp), .int (nI ou)]))], [(tr, .inl (Y 0, 140, .inl (rowF (setN ρ (2 + y1) (10 * y3 + y4)))))]] H locs := hw
      refine lv_iconst (v := (nI 1)) hx hb dX6_command_203 (by decide) ?_
      have hR5 : dSet ρ y1 (10 * y3 + y4) = mSet ρ (y1 : Int) (10 * y3 + y4) := if_pos ht
      have hw := row_fold (i := 1) (f' := rowF (dSet ρ y1 (10 * y3 + y4))) hw rfl (fun q hq => congrArg nI (by clear hret hw hl M hK hZ hx hb; rw [hR5]; unfold mSet; rcases hy01 with h2 | h2 <;> subst h2 <;> rfl))
      have hw : xW G A s.heap [[(mo, .inr (5, [.int (nI rf), .ref tx, .int (nI sz), .ref nw, .ref tr, .ref dy, .int (nI ac), .ref kp, .ref ik, .ref td, .ref ch, .int (nI sp), .int (nI ou)]))], [(tr, .inl (Y 0, 140, .inl (rowF (dSet ρ y1 (10 * y3 + y4)))))]] H locs := hw
      have hR : cRow ρ w y1 y2 y3 y4 = dSet ρ y1 (10 * y3 + y4) := by clear hret hw hl M hK hZ hx hb; unfold cRow; rw [if_neg (by omega), if_neg (by omega), if_neg (by omega), if_neg (by omega), if_pos (by omega)]; rw [if_pos (by first | assumption | omega)]
      simp only [decide_eq_true_eq, decide_eq_false_iff_not] at c_14
      exact hret _ _ _ (nI 1) _ _ dX6_command_204 hw rfl rfl ⟨b2i_t (by clear hret hw hl M hK hZ hx hb; unfold cOk; rw [if_neg (by omega), if_neg (by omega), if_neg (by omega), if_neg (by omega), if_pos (by omega)]; exact decide_eq_true (by omega)), by rw [hR]⟩
    refine lv_iconst (v := (nI 0)) hx hb dX6_command_185 (by decide) ?_
    have hR5 : dSet ρ y1 (10 * y3 + y4) = ρ := if_neg (by clear hret hw hl M hK hZ hx hb; simpa using c_14)
    rw [← hR5] at hw
    have hR : cRow ρ w y1 y2 y3 y4 = dSet ρ y1 (10 * y3 + y4) := by clear hret hw hl M hK hZ hx hb; unfold cRow; rw [if_neg (by omega), if_neg (by omega), if_neg (by omega), if_neg (by omega), if_pos (by omega)]; rw [if_pos (by first | assumption | omega)]
    simp only [decide_eq_true_eq, decide_eq_false_iff_not] at c_14
    exact hret _ _ _ (nI 0) _ _ dX6_command_186 hw rfl rfl ⟨b2i_f (by clear hret hw hl M hK hZ hx hb; unfold cOk; rw [if_neg (by omega), if_neg (by omega), if_neg (by omega), if_neg (by omega), if_pos (by omega)]; exact decide_eq_false (by omega)), by rw [hR]⟩
  · refine x_topN (n := 6) (congrArg nI e_1) ?_
    refine lv_tableIn (tgt := 205) hx hb dX6_command_1 (by decide) (by decide) rfl (by decide) ?_
    refine lv_iload hx hb dX6_command_205 (lv_at hl 4 rfl) ?_
    refine lv_iload hx hb dX6_command_207 (lv_at hl 5 rfl) ?_
    refine x_iadd M (n := y3 + y4) dX6_command_209 rfl ?_
    refine x_zne M (tgt := 241) (by omega) dX6_command_210 (by decide) (fun c_15 => ?_) (fun c_15 => ?_)
    · refine lv_iconst (v := (nI 0)) hx hb dX6_command_241 (by decide) ?_
      have hR : cRow ρ w y1 y2 y3 y4 = ρ := by clear hret hw hl M hK hZ hx hb; unfold cRow; rw [if_neg (by omega), if_neg (by omega), if_neg (by omega), if_neg (by omega), if_neg (by omega), if_pos (by omega)]; rw [if_neg (by first | assumption | omega)]
      exact hret _ _ _ (nI 0) _ _ dX6_command_242 hw rfl rfl ⟨b2i_f (by clear hret hw hl M hK hZ hx hb; unfold cOk; rw [if_neg (by omega), if_neg (by omega), if_neg (by omega), if_neg (by omega), if_neg (by omega), if_pos (by omega)]; exact decide_eq_false (by omega)), by rw [hR]⟩
    refine lv_aload_n hx hb dX6_command_213 rfl (lv_at hl 0 rfl) ?_
    refine x_get M hK hw 0 0 rfl rfl ff_X6_16 rfl dX6_command_214 ?_
    refine lv_iload_n hx hb dX6_command_217 rfl (lv_at hl 2 rfl) ?_
    refine lv_iload_n hx hb dX6_command_218 rfl (lv_at hl 3 rfl) ?_
    refine x_cSI (As := [.ref tr, .int (nI y1), .int (nI y2)]) (k_X6_canDrop l G Y tr ρ (nI y1) (nI y2) (hI)) cw_X6_177 [1] M hK hZ hw hl.1 rfl (by decide) ⟨by decide, by decide⟩ ⟨Nat.zero_le _, Nat.zero_le _⟩ rfl rfl (Nat.le_of_ble_eq_true rfl) dX6_command_219 (fun r sg h_16 H locs hw => ?_)
    obtain ⟨rfl, rfl⟩ := h_16
    have hw : xW G A s.heap [[(mo, .inr (5, [.int (nI rf), .ref tx, .int (nI sz), .ref nw, .ref tr, .ref dy, .int (nI ac), .ref kp, .ref ik, .ref td, .ref ch, .int (nI sp), .int (nI ou)]))], [(tr, .inl (Y 0, 140, .inl (rowF ρ)))]] H locs := hw
    refine x_topI (y := b2i (decide (tDrop ρ y1 y2 = 0))) (congrArg b2i (canDr_eq (by omega) (by omega))) ?_
    refine x_beq M (tgt := 241) dX6_command_222 (by decide) (fun c_17 => ?_) (fun c_17 => ?_)
    · refine lv_iconst (v := (nI 0)) hx hb dX6_command_241 (by decide) ?_
      have hR6 : dDrop ρ y1 y2 = ρ := if_neg (by clear hret hw hl M hK hZ hx hb; simpa using c_17)
      rw [← hR6] at hw
      have hR : cRow ρ w y1 y2 y3 y4 = dDrop ρ y1 y2 := by clear hret hw hl M hK hZ hx hb; unfold cRow; rw [if_neg (by omega), if_neg (by omega), if_neg (by omega), if_neg (by omega), if_neg (by omega), if_pos (by omega)]; rw [if_pos (by first | assumption | omega)]
      simp only [decide_eq_true_eq, decide_eq_false_iff_not] at c_17
      exact hret _ _ _ (nI 0) _ _ dX6_command_242 hw rfl rfl ⟨b2i_f (by clear hret hw hl M hK hZ hx hb; unfold cOk; rw [if_neg (by omega), if_neg (by omega), if_neg (by omega), if_neg (by omega), if_neg (by omega), if_pos (by omega)]; exact decide_eq_false (by omega)), by rw [hR]⟩
    have hok := okN_drop (ρ := ρ) (show tDrop ρ y1 y2 = 0 by clear hret hw hl M hK hZ hx hb; simpa using c_17)
    refine lv_aload_n hx hb dX6_command_225 rfl (lv_at hl 0 rfl) ?_
    refine x_get M hK hw 0 0 rfl rfl ff_X6_16 rfl dX6_command_226 ?_
    refine lv_iload_n hx hb dX6_command_229 rfl (lv_at hl 2 rfl) ?_
    refine lv_iload_n hx hb dX6_command_230 rfl (lv_at hl 3 rfl) ?_
    refine x_cSI (As := [.ref tr, .int (nI y1), .int (nI y2)]) (k_X6_dropOn l G Y tr y1 y2 ρ (hI) (by omega) (by omega) (by omega)) cw_X6_181 [1] M hK hZ hw hl.1 rfl (by decide) ⟨by decide, by decide⟩ ⟨Nat.zero_le _, Nat.zero_le _⟩ rfl rfl (Nat.le_of_ble_eq_true rfl) dX6_command_231 (fun r sg h_18 H locs hw => ?_)
    obtain ⟨rfl, rfl⟩ := h_18
    have hw : xW G A s.heap [[(mo, .inr (5, [.int (nI rf), .ref tx, .int (nI sz), .ref nw, .ref tr, .ref dy, .int (nI ac), .ref kp, .ref ik, .ref td, .ref ch, .int (nI sp), .int (nI ou)]))], [(tr, .inl (Y 0, 140, .inl (rowF (mDrop ρ y1 y2))))]] H locs := hw
    have q_19 : ρ (22 + 21 * y1) ≤ 3 := hI.pck (by omega) rfl
    refine x_topN (n := (ρ (22 + 21 * y1) - 1)) (congrArg nI (by omega)) ?_
    refine x_zlt M (tgt := 241) (by omega) dX6_command_234 (by decide) ?_
    refine lv_iconst (v := (nI 1)) hx hb dX6_command_237 (by decide) ?_
    refine lv_goto (tgt := 242) hx hb dX6_command_238 (by decide) ?_
    have hR6 : dDrop ρ y1 y2 = mDrop ρ y1 y2 := if_pos (by clear hret hw hl M hK hZ hx hb; simpa using c_17)
    rw [← hR6] at hw
    have hR : cRow ρ w y1 y2 y3 y4 = dDrop ρ y1 y2 := by clear hret hw hl M hK hZ hx hb; unfold cRow; rw [if_neg (by omega), if_neg (by omega), if_neg (by omega), if_neg (by omega), if_neg (by omega), if_pos (by omega)]; rw [if_pos (by first | assumption | omega)]
    simp only [decide_eq_true_eq, decide_eq_false_iff_not] at c_17
    exact hret _ _ _ (nI 1) _ _ dX6_command_242 hw rfl rfl ⟨b2i_t (by clear hret hw hl M hK hZ hx hb; unfold cOk; rw [if_neg (by omega), if_neg (by omega), if_neg (by omega), if_neg (by omega), if_neg (by omega), if_pos (by omega)]; exact decide_eq_true (by omega)), by rw [hR]⟩
  · refine x_topN (n := 7) (congrArg nI e_1) ?_
    refine lv_tableIn (tgt := 243) hx hb dX6_command_1 (by decide) (by decide) rfl (by decide) ?_
    refine lv_iload_n hx hb dX6_command_243 rfl (lv_at hl 2 rfl) ?_
    refine x_cSI (As := [.int (nI y1)]) (k_X6_isKind l G Y (nI y1)) cw_X6_83 [] M hK hZ hw hl.1 rfl (by decide) ⟨by decide, by decide⟩ ⟨Nat.zero_le _, Nat.zero_le _⟩ rfl rfl (Nat.le_of_ble_eq_true rfl) dX6_command_244 (fun r sg h_20 H locs hw => ?_)
    obtain ⟨rfl, rfl⟩ := h_20
    have hw : xW G A s.heap [[(mo, .inr (5, [.int (nI rf), .ref tx, .int (nI sz), .ref nw, .ref tr, .ref dy, .int (nI ac), .ref kp, .ref ik, .ref td, .ref ch, .int (nI sp), .int (nI ou)]))], [(tr, .inl (Y 0, 140, .inl (rowF ρ)))]] H locs := hw
    refine x_beq M (tgt := 279) dX6_command_247 (by decide) (fun c_21 => ?_) (fun c_21 => ?_)
    · have hz := pzF c_21 (by omega)
      refine lv_iconst (v := (nI 0)) hx hb dX6_command_279 (by decide) ?_
      have hR : cRow ρ w y1 y2 y3 y4 = ρ := by clear hret hw hl M hK hZ hx hb; unfold cRow; rw [if_neg (by omega), if_neg (by omega), if_neg (by omega), if_neg (by omega), if_neg (by omega), if_neg (by omega)]
      exact hret _ _ _ (nI 0) _ _ dX6_command_280 hw rfl rfl ⟨b2i_f (by clear hret hw hl M hK hZ hx hb; unfold cOk; rw [if_neg (by omega), if_neg (by omega), if_neg (by omega), if_neg (by omega), if_neg (by omega), if_neg (by omega), if_pos (by omega)]; exact decide_eq_false (by omega)), by rw [hR]⟩
    have hz := pzT c_21 (by omega)
    refine lv_aload_n hx hb dX6_command_250 rfl (lv_at hl 0 rfl) ?_
    refine x_get M hK hw 0 0 rfl rfl ff_X6_16 rfl dX6_command_251 ?_
    refine lv_bipush (v := (nI 11)) hx hb dX6_command_254 (by decide) ?_
    refine lv_iload_n hx hb dX6_command_256 rfl (lv_at hl 2 rfl) ?_
    refine x_iadd M (n := 11 + y1) dX6_command_257 rfl ?_
    refine x_iald M hK hw 1 0 rfl rfl (by omega) (by decide) dX6_command_258 ?_
    refine x_topN (n := ρ (11 + y1)) rfl ?_
    have q_22 : 1 ≤ ρ (11 + y1) := (hI.pri (k := y1) (by omega) rfl).1
    have q_23 : ρ (11 + y1) ≤ 99999 := (hI.pri (k := y1) (by omega) rfl).2
    refine lv_bipush (v := (nI 100)) hx hb dX6_command_259 (by decide) ?_
    refine lv_iload_n hx hb dX6_command_261 rfl (lv_at hl 3 rfl) ?_
    refine x_imul M (n := 100 * y2) dX6_command_262 (by omega) ?_
    refine lv_bipush (v := (nI 10)) hx hb dX6_command_263 (by decide) ?_
    refine lv_iload hx hb dX6_command_265 (lv_at hl 4 rfl) ?_
    refine x_imul M (n := 10 * y3) dX6_command_267 (by omega) ?_
    refine x_iadd M (n := 100 * y2 + 10 * y3) dX6_command_268 rfl ?_
    refine lv_iload hx hb dX6_command_269 (lv_at hl 5 rfl) ?_
    refine x_iadd M (n := 100 * y2 + 10 * y3 + y4) dX6_command_271 rfl ?_
    refine x_clt M (tgt := 279) (by omega) (by omega) dX6_command_272 (by decide) (fun c_24 => ?_) (fun c_24 => ?_)
    · refine lv_iconst (v := (nI 0)) hx hb dX6_command_279 (by decide) ?_
      have hR : cRow ρ w y1 y2 y3 y4 = ρ := by clear hret hw hl M hK hZ hx hb; unfold cRow; rw [if_neg (by omega), if_neg (by omega), if_neg (by omega), if_neg (by omega), if_neg (by omega), if_neg (by omega)]
      exact hret _ _ _ (nI 0) _ _ dX6_command_280 hw rfl rfl ⟨b2i_f (by clear hret hw hl M hK hZ hx hb; unfold cOk; rw [if_neg (by omega), if_neg (by omega), if_neg (by omega), if_neg (by omega), if_neg (by omega), if_neg (by omega), if_pos (by omega)]; exact decide_eq_false (by omega)), by rw [hR]⟩
    refine lv_iconst (v := (nI 1)) hx hb dX6_command_275 (by decide) ?_
    refine lv_goto (tgt := 280) hx hb dX6_command_276 (by decide) ?_
    have hR : cRow ρ w y1 y2 y3 y4 = ρ := by clear hret hw hl M hK hZ hx hb; unfold cRow; rw [if_neg (by omega), if_neg (by omega), if_neg (by omega), if_neg (by omega), if_neg (by omega), if_neg (by omega)]
    exact hret _ _ _ (nI 1) _ _ dX6_command_280 hw rfl rfl ⟨b2i_t (by clear hret hw hl M hK hZ hx hb; unfold cOk; rw [if_neg (by omega), if_neg (by omega), if_neg (by omega), if_neg (by omega), if_neg (by omega), if_neg (by omega), if_pos (by omega)]; exact decide_eq_true (by omega)), by rw [hR]⟩
  · refine x_topN (n := 8) (congrArg nI e_1) ?_
    refine lv_tableIn (tgt := 281) hx hb dX6_command_1 (by decide) (by decide) rfl (by decide) ?_
    refine lv_iload_n hx hb dX6_command_281 rfl (lv_at hl 3 rfl) ?_
    refine x_zne M (tgt := 322) (by omega) dX6_command_282 (by decide) (fun c_25 => ?_) (fun c_25 => ?_)
    · refine lv_iconst (v := (nI 0)) hx hb dX6_command_322 (by decide) ?_
      have hR : cRow ρ w y1 y2 y3 y4 = ρ := by clear hret hw hl M hK hZ hx hb; unfold cRow; rw [if_neg (by omega), if_neg (by omega), if_neg (by omega), if_neg (by omega), if_neg (by omega), if_neg (by omega)]
      exact hret _ _ _ (nI 0) _ _ dX6_command_323 hw rfl rfl ⟨b2i_f (by clear hret hw hl M hK hZ hx hb; unfold cOk; rw [if_neg (by omega), if_neg (by omega), if_neg (by omega), if_neg (by omega), if_neg (by omega), if_neg (by omega), if_neg (by omega), if_pos (by omega)]; exact decide_eq_false (by omega)), by rw [hR]⟩
    refine lv_aload_n hx hb dX6_command_285 rfl (lv_at hl 0 rfl) ?_
    refine x_get M hK hw 0 0 rfl rfl ff_X6_16 rfl dX6_command_286 ?_
    refine lv_iload_n hx hb dX6_command_289 rfl (lv_at hl 2 rfl) ?_
    refine x_cSI (As := [.ref tr, .int (nI y1)]) (k_X6_isBidder l G Y tr ρ (nI y1) (hI)) cw_X6_79 [1] M hK hZ hw hl.1 rfl (by decide) ⟨by decide, by decide⟩ ⟨Nat.zero_le _, Nat.zero_le _⟩ rfl rfl (Nat.le_of_ble_eq_true rfl) dX6_command_290 (fun r sg h_26 H locs hw => ?_)
    obtain ⟨rfl, rfl⟩ := h_26
    have hw : xW G A s.heap [[(mo, .inr (5, [.int (nI rf), .ref tx, .int (nI sz), .ref nw, .ref tr, .ref dy, .int (nI ac), .ref kp, .ref ik, .ref td, .ref ch, .int (nI sp), .int (nI ou)]))], [(tr, .inl (Y 0, 140, .inl (rowF ρ)))]] H locs := hw
    refine x_beq M (tgt := 322) dX6_command_293 (by decide) (fun c_27 => ?_) (fun c_27 => ?_)
    · have hz := pzF c_27 (by omega)
      refine lv_iconst (v := (nI 0)) hx hb dX6_command_322 (by decide) ?_
      have hR : cRow ρ w y1 y2 y3 y4 = ρ := by clear hret hw hl M hK hZ hx hb; unfold cRow; rw [if_neg (by omega), if_neg (by omega), if_neg (by omega), if_neg (by omega), if_neg (by omega), if_neg (by omega)]
      exact hret _ _ _ (nI 0) _ _ dX6_command_323 hw rfl rfl ⟨b2i_f (by clear hret hw hl M hK hZ hx hb; unfold cOk; rw [if_neg (by omega), if_neg (by omega), if_neg (by omega), if_neg (by omega), if_neg (by omega), if_neg (by omega), if_neg (by omega), if_pos (by omega)]; exact decide_eq_false (by omega)), by rw [hR]⟩
    have hz := pzT c_27 (by omega)
    refine lv_aload_n hx hb dX6_command_296 rfl (lv_at hl 0 rfl) ?_
    refine x_get M hK hw 0 0 rfl rfl ff_X6_16 rfl dX6_command_297 ?_
    refine lv_iload_n hx hb dX6_command_300 rfl (lv_at hl 2 rfl) ?_
    refine x_cSI (As := [.int (nI y1)]) (k_X6_at l G Y y1) cw_X6_49 [] M hK hZ hw hl.1 rfl (by decide) ⟨by decide, by decide⟩ ⟨Nat.zero_le _, Nat.zero_le _⟩ rfl rfl (Nat.le_of_ble_eq_true rfl) dX6_command_301 (fun r sg h_28 H locs hw => ?_)
    obtain ⟨rfl, rfl⟩ := h_28
    have hw : xW G A s.heap [[(mo, .inr (5, [.int (nI rf), .ref tx, .int (nI sz), .ref nw, .ref tr, .ref dy, .int (nI ac), .ref kp, .ref ik, .ref td, .ref ch, .int (nI sp), .int (nI ou)]))], [(tr, .inl (Y 0, 140, .inl (rowF ρ)))]] H locs := hw
    refine lv_iconst (v := (nI 0)) hx hb dX6_command_304 (by decide) ?_
    refine x_iadd M (n := 14 + 21 * y1) dX6_command_305 (by omega) ?_
    refine x_iald M hK hw 1 0 rfl rfl (by omega) (by decide) dX6_command_306 ?_
    refine x_topN (n := ρ (14 + 21 * y1)) rfl ?_
    have q_29 : ρ (14 + 21 * y1) ≤ 99 := hI.rgt (j := y1) (by omega) (by omega)
    refine lv_bipush (v := (nI 10)) hx hb dX6_command_307 (by decide) ?_
    refine lv_iload hx hb dX6_command_309 (lv_at hl 4 rfl) ?_
    refine x_imul M (n := 10 * y3) dX6_command_311 (by omega) ?_
    refine lv_iload hx hb dX6_command_312 (lv_at hl 5 rfl) ?_
    refine x_iadd M (n := 10 * y3 + y4) dX6_command_314 rfl ?_
    refine x_clt M (tgt := 322) (by omega) (by omega) dX6_command_315 (by decide) (fun c_30 => ?_) (fun c_30 => ?_)
    · refine lv_iconst (v := (nI 0)) hx hb dX6_command_322 (by decide) ?_
      have hR : cRow ρ w y1 y2 y3 y4 = ρ := by clear hret hw hl M hK hZ hx hb; unfold cRow; rw [if_neg (by omega), if_neg (by omega), if_neg (by omega), if_neg (by omega), if_neg (by omega), if_neg (by omega)]
      exact hret _ _ _ (nI 0) _ _ dX6_command_323 hw rfl rfl ⟨b2i_f (by clear hret hw hl M hK hZ hx hb; unfold cOk; rw [if_neg (by omega), if_neg (by omega), if_neg (by omega), if_neg (by omega), if_neg (by omega), if_neg (by omega), if_neg (by omega), if_pos (by omega)]; exact decide_eq_false (by omega)), by rw [hR]⟩
    refine lv_iconst (v := (nI 1)) hx hb dX6_command_318 (by decide) ?_
    refine lv_goto (tgt := 323) hx hb dX6_command_319 (by decide) ?_
    have hR : cRow ρ w y1 y2 y3 y4 = ρ := by clear hret hw hl M hK hZ hx hb; unfold cRow; rw [if_neg (by omega), if_neg (by omega), if_neg (by omega), if_neg (by omega), if_neg (by omega), if_neg (by omega)]
    exact hret _ _ _ (nI 1) _ _ dX6_command_323 hw rfl rfl ⟨b2i_t (by clear hret hw hl M hK hZ hx hb; unfold cOk; rw [if_neg (by omega), if_neg (by omega), if_neg (by omega), if_neg (by omega), if_neg (by omega), if_neg (by omega), if_neg (by omega), if_pos (by omega)]; exact decide_eq_true (by omega)), by rw [hR]⟩
  · refine x_topN (n := 9) (congrArg nI e_1) ?_
    refine lv_tableIn (tgt := 324) hx hb dX6_command_1 (by decide) (by decide) rfl (by decide) ?_
    refine lv_iload_n hx hb dX6_command_324 rfl (lv_at hl 2 rfl) ?_
    refine lv_iload_n hx hb dX6_command_325 rfl (lv_at hl 3 rfl) ?_
    refine x_iadd M (n := y1 + y2) dX6_command_326 rfl ?_
    refine lv_iload hx hb dX6_command_327 (lv_at hl 4 rfl) ?_
    refine x_iadd M (n := y1 + y2 + y3) dX6_command_329 rfl ?_
    refine lv_iload hx hb dX6_command_330 (lv_at hl 5 rfl) ?_
    refine x_iadd M (n := y1 + y2 + y3 + y4) dX6_command_332 rfl ?_
    refine x_zne M (tgt := 350) (by omega) dX6_command_333 (by decide) (fun c_31 => ?_) (fun c_31 => ?_)
    · refine lv_iconst (v := (nI 0)) hx hb dX6_command_350 (by decide) ?_
      have hR : cRow ρ w y1 y2 y3 y4 = ρ := by clear hret hw hl M hK hZ hx hb; unfold cRow; rw [if_neg (by omega), if_neg (by omega), if_neg (by omega), if_neg (by omega), if_neg (by omega), if_neg (by omega)]
      exact hret _ _ _ (nI 0) _ _ dX6_command_351 hw rfl rfl ⟨b2i_f (by clear hret hw hl M hK hZ hx hb; unfold cOk; rw [if_neg (by omega), if_neg (by omega), if_neg (by omega), if_neg (by omega), if_neg (by omega), if_neg (by omega), if_neg (by omega), if_neg (by omega), if_pos (by omega)]; exact decide_eq_false (by omega)), by rw [hR]⟩
    refine lv_aload_n hx hb dX6_command_336 rfl (lv_at hl 0 rfl) ?_
    refine x_get M hK hw 0 0 rfl rfl ff_X6_16 rfl dX6_command_337 ?_
    refine lv_iconst (v := (nI 1)) hx hb dX6_command_340 (by decide) ?_
    refine x_iald M hK hw 1 0 rfl rfl (by decide) (by decide) dX6_command_341 ?_
    refine x_topN (n := ρ 1) rfl ?_
    have q_32 : ρ 1 ≤ 1 := hI.over
    refine lv_iconst (v := (nI 1)) hx hb dX6_command_342 (by decide) ?_
    refine x_cne M (tgt := 350) (by omega) (by decide) dX6_command_343 (by decide) (fun c_33 => ?_) (fun c_33 => ?_)
    · refine lv_iconst (v := (nI 0)) hx hb dX6_command_350 (by decide) ?_
      have hR : cRow ρ w y1 y2 y3 y4 = ρ := by clear hret hw hl M hK hZ hx hb; unfold cRow; rw [if_neg (by omega), if_neg (by omega), if_neg (by omega), if_neg (by omega), if_neg (by omega), if_neg (by omega)]
      exact hret _ _ _ (nI 0) _ _ dX6_command_351 hw rfl rfl ⟨b2i_f (by clear hret hw hl M hK hZ hx hb; unfold cOk; rw [if_neg (by omega), if_neg (by omega), if_neg (by omega), if_neg (by omega), if_neg (by omega), if_neg (by omega), if_neg (by omega), if_neg (by omega), if_pos (by omega)]; exact decide_eq_false (by omega)), by rw [hR]⟩
    refine lv_iconst (v := (nI 1)) hx hb dX6_command_346 (by decide) ?_
    refine lv_goto (tgt := 351) hx hb dX6_command_347 (by decide) ?_
    have hR : cRow ρ w y1 y2 y3 y4 = ρ := by clear hret hw hl M hK hZ hx hb; unfold cRow; rw [if_neg (by omega), if_neg (by omega), if_neg (by omega), if_neg (by omega), if_neg (by omega), if_neg (by omega)]
    exact hret _ _ _ (nI 1) _ _ dX6_command_351 hw rfl rfl ⟨b2i_t (by clear hret hw hl M hK hZ hx hb; unfold cOk; rw [if_neg (by omega), if_neg (by omega), if_neg (by omega), if_neg (by omega), if_neg (by omega), if_neg (by omega), if_neg (by omega), if_neg (by omega), if_pos (by omega)]; exact decide_eq_true (by omega)), by rw [hR]⟩
set_option maxHeartbeats 4000000 in
set_option maxRecDepth 20000 in
theorem k_X6_turn (l : Launch) (G : va_G) (Y : Nat → Nat) (mo rf tx sz nw tr dy ac kp ik td ch sp ou : Nat) (ρ : Nat → Nat) (r : Nat) (hI : Inv ρ) (hr : r < 2 ^ 31) : CtV l yX6_turn cX6_turn 6 5 112 [.ref mo, .int (nI r)] [[(mo, .inr (5, [.int (nI rf), .ref tx, .int (nI sz), .ref nw, .ref tr, .ref dy, .int (nI ac), .ref kp, .ref ik, .ref td, .ref ch, .int (nI sp), .int (nI ou)]))], [(tr, .inl (Y 0, 140, .inl (rowF ρ)))]] (fun sg => sg = [[(mo, .inr (5, [.int (nI rf), .ref tx, .int (nI sz), .ref nw, .ref tr, .ref dy, .int (nI ac), .ref kp, .ref ik, .ref td, .ref ch, .int (nI sp), .int (nI ou)]))], [(tr, .inl (Y 0, 140, .inl (rowF (turnRow ρ r))))]]) G Y := by
  refine x_ofV (by decide) (Nat.le_of_ble_eq_true rfl) (fun p e s m args below meth c A ls Q M hK hZ hw hl hret => ?_)
  obtain ⟨hx, hb, -⟩ := id M
  have hl : lv_has ls 6 [(0, .ref mo), (1, .int (nI r))] := hl
  have := hI.n6
  have := hI.over
  have := hI.keep
  have := hI.stepp
  have L19 : ∀ (n : Nat), (n = if ρ 4 = 0 then 1 else ρ 4) → ∀ (H : Heap) (locs : List Loc), xW G A s.heap [[(mo, .inr (5, [.int (nI rf), .ref tx, .int (nI sz), .ref nw, .ref tr, .ref dy, .int (nI ac), .ref kp, .ref ik, .ref td, .ref ch, .int (nI sp), .int (nI ou)]))], [(tr, .inl (Y 0, 140, .inl (rowF ρ)))]] H locs → ∀ (ls : Array Slot), lv_has ls 6 [(0, .ref mo), (1, .int (nI r))] → W p l e (xRm 5 112) s m args below meth c H locs 0 0 Q (F0 m 19 ls [.int (nI n)]) := by
    intro n hn H locs hw ls hl
    have hn0 : 0 < n := by rw [hn]; split <;> omega
    have hn6 : n ≤ 6 := by rw [hn]; split <;> omega
    refine lv_istore_n (lv' := [(2, .int (nI n)), (0, .ref mo), (1, .int (nI r))]) hx hb dX6_turn_19 rfl hl (by decide) rfl (fun ls hl => ?_)
    have htb : r / 16 % n < n := Nat.mod_lt _ hn0
    have htb2 : turnB ρ r < n := by unfold turnB; rw [← hn]; exact htb
    refine lv_iload_n hx hb dX6_turn_20 rfl (lv_at hl 2 rfl) ?_
    refine lv_bipush (v := (nI 16)) hx hb dX6_turn_21 (by decide) ?_
    refine x_idiv M (n := r / 16) dX6_turn_23 (by omega) (by omega) (by decide) rfl ?_
    refine lv_iload_n hx hb dX6_turn_24 rfl (lv_at hl 0 rfl) ?_
    refine x_irem M (n := (r / 16) % n) dX6_turn_25 (by omega) (by omega) (by omega) rfl ?_
    refine x_topN (n := (turnB ρ r)) (congrArg nI (by unfold turnB; rw [← hn])) ?_
    refine lv_istore_n (lv' := [(3, .int (nI (turnB ρ r))), (2, .int (nI n)), (0, .ref mo), (1, .int (nI r))]) hx hb dX6_turn_26 rfl hl (by decide) rfl (fun ls hl => ?_)
    refine lv_iload_n hx hb dX6_turn_27 rfl (lv_at hl 3 rfl) ?_
    refine lv_sipush (v := (nI 128)) hx hb dX6_turn_28 (by decide) ?_
    refine x_idiv M (n := r / 128) dX6_turn_31 (by omega) (by omega) (by decide) rfl ?_
    refine lv_iconst (v := (nI 3)) hx hb dX6_turn_32 (by decide) ?_
    refine x_irem M (n := (r / 128) % 3) dX6_turn_33 (by omega) (by omega) (by decide) rfl ?_
    refine lv_istore (lv' := [(4, .int (nI ((r / 128) % 3))), (3, .int (nI (turnB ρ r))), (2, .int (nI n)), (0, .ref mo), (1, .int (nI r))]) hx hb dX6_turn_34 hl (by decide) rfl (fun ls hl => ?_)
    refine lv_iload_n hx hb dX6_turn_36 rfl (lv_at hl 4 rfl) ?_
    refine lv_bipush (v := (nI 16)) hx hb dX6_turn_37 (by decide) ?_
    refine x_irem M (n := r % 16) dX6_turn_39 (by omega) (by omega) (by decide) rfl ?_
    refine lv_istore (lv' := [(5, .int (nI (r % 16))), (4, .int (nI ((r / 128) % 3))), (3, .int (nI (turnB ρ r))), (2, .int (nI n)), (0, .ref mo), (1, .int (nI r))]) hx hb dX6_turn_40 hl (by decide) rfl (fun ls hl => ?_)
    refine lv_iload hx hb dX6_turn_42 (lv_at hl 0 rfl) ?_
    refine x_zne M (tgt := 77) (by omega) dX6_turn_44 (by decide) (fun c_1 => ?_) (fun c_1 => ?_)
    · refine lv_iload hx hb dX6_turn_77 (lv_at hl 0 rfl) ?_
      refine lv_iconst (v := (nI 4)) hx hb dX6_turn_79 (by decide) ?_
      refine x_cge M (tgt := 107) (by omega) (by decide) dX6_turn_80 (by decide) (fun c_2 => ?_) (fun c_2 => ?_)
      · refine lv_iload hx hb dX6_turn_107 (lv_at hl 0 rfl) ?_
        refine lv_bipush (v := (nI 7)) hx hb dX6_turn_109 (by decide) ?_
        refine x_cge M (tgt := 137) (by omega) (by decide) dX6_turn_111 (by decide) (fun c_3 => ?_) (fun c_3 => ?_)
        · refine lv_iload hx hb dX6_turn_137 (lv_at hl 0 rfl) ?_
          refine lv_bipush (v := (nI 11)) hx hb dX6_turn_139 (by decide) ?_
          refine x_cge M (tgt := 160) (by omega) (by decide) dX6_turn_141 (by decide) (fun c_4 => ?_) (fun c_4 => ?_)
          · refine lv_iload hx hb dX6_turn_160 (lv_at hl 0 rfl) ?_
            refine lv_bipush (v := (nI 14)) hx hb dX6_turn_162 (by decide) ?_
            refine x_cge M (tgt := 183) (by omega) (by decide) dX6_turn_164 (by decide) (fun c_5 => ?_) (fun c_5 => ?_)
            · refine lv_aload_n hx hb dX6_turn_183 rfl (lv_at hl 4 rfl) ?_
              refine x_get M hK hw 0 0 rfl rfl ff_X6_16 rfl dX6_turn_184 ?_
              refine lv_iload_n hx hb dX6_turn_187 rfl (lv_at hl 2 rfl) ?_
              refine lv_iload_n hx hb dX6_turn_188 rfl (lv_at hl 5 rfl) ?_
              refine lv_sipush (v := (nI 512)) hx hb dX6_turn_189 (by decide) ?_
              refine x_idiv M (n := r / 512) dX6_turn_192 (by omega) (by omega) (by decide) rfl ?_
              refine lv_iconst (v := (nI 3)) hx hb dX6_turn_193 (by decide) ?_
              refine x_irem M (n := (r / 512) % 3) dX6_turn_194 (by omega) (by omega) (by decide) rfl ?_
              refine lv_iload_n hx hb dX6_turn_195 rfl (lv_at hl 5 rfl) ?_
              refine lv_sipush (v := (nI 2048)) hx hb dX6_turn_196 (by decide) ?_
              refine x_idiv M (n := r / 2048) dX6_turn_199 (by omega) (by omega) (by decide) rfl ?_
              refine lv_iconst (v := (nI 3)) hx hb dX6_turn_200 (by decide) ?_
              refine x_irem M (n := (r / 2048) % 3) dX6_turn_201 (by omega) (by omega) (by decide) rfl ?_
              refine lv_iload_n hx hb dX6_turn_202 rfl (lv_at hl 5 rfl) ?_
              refine lv_sipush (v := (nI 8192)) hx hb dX6_turn_203 (by decide) ?_
              refine x_idiv M (n := r / 8192) dX6_turn_206 (by omega) (by omega) (by decide) rfl ?_
              refine lv_iconst (v := (nI 3)) hx hb dX6_turn_207 (by decide) ?_
              refine x_irem M (n := (r / 8192) % 3) dX6_turn_208 (by omega) (by omega) (by decide) rfl ?_
              refine lv_iconst (v := (nI 1)) hx hb dX6_turn_209 (by decide) ?_
              refine lv_iload_n hx hb dX6_turn_210 rfl (lv_at hl 5 rfl) ?_
              refine lv_ldc (v := (nI 32768)) hx hb M.2.2.2.1 (M.2.2.2.2 _ mw_1304) dX6_turn_211 ?_
              refine x_idiv M (n := r / 32768) dX6_turn_213 (by omega) (by omega) (by decide) rfl ?_
              refine lv_sipush (v := (nI 200)) hx hb dX6_turn_214 (by decide) ?_
              refine x_irem M (n := (r / 32768) % 200) dX6_turn_217 (by omega) (by omega) (by decide) rfl ?_
              refine x_iadd M (n := 1 + ((r / 32768) % 200)) dX6_turn_218 rfl ?_
              refine x_cSI (As := [.ref tr, .int (nI (turnB ρ r)), .int (nI ((r / 512) % 3)), .int (nI ((r / 2048) % 3)), .int (nI ((r / 8192) % 3)), .int (nI (1 + ((r / 32768) % 200)))]) (k_X6_whyNotAdd l G Y tr ρ (nI (turnB ρ r)) (nI ((r / 512) % 3)) (nI ((r / 2048) % 3)) (nI ((r / 8192) % 3)) (nI (1 + ((r / 32768) % 200))) (hI)) cw_X6_170 [1] M hK hZ hw hl.1 rfl (by decide) ⟨by decide, by decide⟩ ⟨Nat.zero_le _, Nat.zero_le _⟩ rfl rfl (Nat.le_of_ble_eq_true rfl) dX6_turn_219 (fun r sg h_6 H locs hw => ?_)
              obtain ⟨rfl, rfl⟩ := h_6
              have hw : xW G A s.heap [[(mo, .inr (5, [.int (nI rf), .ref tx, .int (nI sz), .ref nw, .ref tr, .ref dy, .int (nI ac), .ref kp, .ref ik, .ref td, .ref ch, .int (nI sp), .int (nI ou)]))], [(tr, .inl (Y 0, 140, .inl (rowF ρ)))]] H locs := hw
              refine x_topN (n := (tAdd ρ (turnB ρ r) (r / 512 % 3) (r / 2048 % 3) (r / 8192 % 3) (1 + r / 32768 % 200))) (congrArg nI (by unfold tAdd; rw [nI_toInt (by omega), nI_toInt (by omega), nI_toInt (by omega), nI_toInt (by omega), nI_toInt (by omega)])) ?_
              have hle : tAdd ρ (turnB ρ r) (r / 512 % 3) (r / 2048 % 3) (r / 8192 % 3) (1 + r / 32768 % 200) ≤ 3 := whyAdd_le
              refine x_zne M (tgt := 265) (by omega) dX6_turn_222 (by decide) (fun c_7 => ?_) (fun c_7 => ?_)
              · have hRa : dAdd ρ (turnB ρ r) (r / 512 % 3) (r / 2048 % 3) (r / 8192 % 3) (1 + r / 32768 % 200) = ρ := if_neg (by omega)
                rw [← hRa] at hw
                have hR : turnRow ρ r = dAdd ρ (turnB ρ r) (r / 512 % 3) (r / 2048 % 3) (r / 8192 % 3) (1 + r / 32768 % 200) := by clear hret hw hl M hK hZ hx hb; unfold turnRow; rw [if_neg (by omega)]; rw [if_neg (by omega)]; rw [if_neg (by omega)]; rw [if_neg (by omega)]; rw [if_neg (by omega)]
                exact hret _ _ _ _ _ dX6_turn_265 hw rfl (by rw [hR])
              have hok := okN_add (ρ := ρ) (show tAdd ρ (turnB ρ r) (r / 512 % 3) (r / 2048 % 3) (r / 8192 % 3) (1 + r / 32768 % 200) = 0 by omega)
              refine lv_aload_n hx hb dX6_turn_225 rfl (lv_at hl 4 rfl) ?_
              refine x_get M hK hw 0 0 rfl rfl ff_X6_16 rfl dX6_turn_226 ?_
              refine lv_iload_n hx hb dX6_turn_229 rfl (lv_at hl 2 rfl) ?_
              refine lv_iload_n hx hb dX6_turn_230 rfl (lv_at hl 5 rfl) ?_
              refine lv_sipush (v := (nI 512)) hx hb dX6_turn_231 (by decide) ?_
              refine x_idiv M (n := r / 512) dX6_turn_234 (by omega) (by omega) (by decide) rfl ?_
              refine lv_iconst (v := (nI 3)) hx hb dX6_turn_235 (by decide) ?_
              refine x_irem M (n := (r / 512) % 3) dX6_turn_236 (by omega) (by omega) (by decide) rfl ?_
              refine lv_iload_n hx hb dX6_turn_237 rfl (lv_at hl 5 rfl) ?_
              refine lv_sipush (v := (nI 2048)) hx hb dX6_turn_238 (by decide) ?_
              refine x_idiv M (n := r / 2048) dX6_turn_241 (by omega) (by omega) (by decide) rfl ?_
              refine lv_iconst (v := (nI 3)) hx hb dX6_turn_242 (by decide) ?_
              refine x_irem M (n := (r / 2048) % 3) dX6_turn_243 (by omega) (by omega) (by decide) rfl ?_
              refine lv_iload_n hx hb dX6_turn_244 rfl (lv_at hl 5 rfl) ?_
              refine lv_sipush (v := (nI 8192)) hx hb dX6_turn_245 (by decide) ?_
              refine x_idiv M (n := r / 8192) dX6_turn_248 (by omega) (by omega) (by decide) rfl ?_
              refine lv_iconst (v := (nI 3)) hx hb dX6_turn_249 (by decide) ?_
              refine x_irem M (n := (r / 8192) % 3) dX6_turn_250 (by omega) (by omega) (by decide) rfl ?_
              refine lv_iconst (v := (nI 1)) hx hb dX6_turn_251 (by decide) ?_
              refine lv_iload_n hx hb dX6_turn_252 rfl (lv_at hl 5 rfl) ?_
              refine lv_ldc (v := (nI 32768)) hx hb M.2.2.2.1 (M.2.2.2.2 _ mw_1304) dX6_turn_253 ?_
              refine x_idiv M (n := r / 32768) dX6_turn_255 (by omega) (by omega) (by decide) rfl ?_
              refine lv_sipush (v := (nI 200)) hx hb dX6_turn_256 (by decide) ?_
              refine x_irem M (n := (r / 32768) % 200) dX6_turn_259 (by omega) (by omega) (by decide) rfl ?_
              refine x_iadd M (n := 1 + ((r / 32768) % 200)) dX6_turn_260 rfl ?_
              refine x_cSI (As := [.ref tr, .int (nI (turnB ρ r)), .int (nI ((r / 512) % 3)), .int (nI ((r / 2048) % 3)), .int (nI ((r / 8192) % 3)), .int (nI (1 + ((r / 32768) % 200)))]) (k_X6_addOn l G Y tr (turnB ρ r) ((r / 512) % 3) ((r / 2048) % 3) ((r / 8192) % 3) (1 + ((r / 32768) % 200)) ρ (hI) (by omega) (by omega)) cw_X6_174 [1] M hK hZ hw hl.1 rfl (by decide) ⟨by decide, by decide⟩ ⟨Nat.zero_le _, Nat.zero_le _⟩ rfl rfl (Nat.le_of_ble_eq_true rfl) dX6_turn_261 (fun r sg h_8 H locs hw => ?_)
              obtain ⟨rfl, rfl⟩ := h_8
              have hw : xW G A s.heap [[(mo, .inr (5, [.int (nI rf), .ref tx, .int (nI sz), .ref nw, .ref tr, .ref dy, .int (nI ac), .ref kp, .ref ik, .ref td, .ref ch, .int (nI sp), .int (nI ou)]))], [(tr, .inl (Y 0, 140, .inl (rowF (mAdd ρ (turnB ρ r) ((r / 512) % 3) ((r / 2048) % 3) ((r / 8192) % 3) (1 + ((r / 32768) % 200))))))]] H locs := hw
              refine x_topN (n := (ρ (22 + 21 * (turnB ρ r)) + 1)) (congrArg nI (by omega)) ?_
              refine lv_pop hx hb dX6_turn_264 rfl ?_
              have hRa : dAdd ρ (turnB ρ r) (r / 512 % 3) (r / 2048 % 3) (r / 8192 % 3) (1 + r / 32768 % 200) = mAdd ρ (turnB ρ r) (r / 512 % 3) (r / 2048 % 3) (r / 8192 % 3) (1 + r / 32768 % 200) := if_pos (by omega)
              rw [← hRa] at hw
              have hR : turnRow ρ r = dAdd ρ (turnB ρ r) (r / 512 % 3) (r / 2048 % 3) (r / 8192 % 3) (1 + r / 32768 % 200) := by clear hret hw hl M hK hZ hx hb; unfold turnRow; rw [if_neg (by omega)]; rw [if_neg (by omega)]; rw [if_neg (by omega)]; rw [if_neg (by omega)]; rw [if_neg (by omega)]
              exact hret _ _ _ _ _ dX6_turn_265 hw rfl (by rw [hR])
            refine lv_aload_n hx hb dX6_turn_167 rfl (lv_at hl 4 rfl) ?_
            refine x_get M hK hw 0 0 rfl rfl ff_X6_16 rfl dX6_turn_168 ?_
            refine lv_bipush (v := (nI 99)) hx hb dX6_turn_171 (by decide) ?_
            refine lv_iconst (v := (nI 0)) hx hb dX6_turn_173 (by decide) ?_
            refine lv_iconst (v := (nI 0)) hx hb dX6_turn_174 (by decide) ?_
            refine lv_iconst (v := (nI 0)) hx hb dX6_turn_175 (by decide) ?_
            refine x_cSI (As := [.ref tr, .int (nI 99), .int (nI 0), .int (nI 0), .int (nI 0)]) (k_X6_does_c l G Y tr 0 0 0 ρ (hI)) cw_X6_143 [1] M hK hZ hw hl.1 rfl (by decide) ⟨by decide, by decide⟩ ⟨Nat.zero_le _, Nat.zero_le _⟩ rfl rfl (Nat.le_of_ble_eq_true rfl) dX6_turn_176 (fun r sg h_9 H locs hw => ?_)
            obtain ⟨rfl, rfl⟩ := h_9
            have hw : xW G A s.heap [[(mo, .inr (5, [.int (nI rf), .ref tx, .int (nI sz), .ref nw, .ref tr, .ref dy, .int (nI ac), .ref kp, .ref ik, .ref td, .ref ch, .int (nI sp), .int (nI ou)]))], [(tr, .inl (Y 0, 140, .inl (rowF (dClose ρ))))]] H locs := hw
            refine lv_pop hx hb dX6_turn_179 rfl ?_
            refine lv_goto (tgt := 265) hx hb dX6_turn_180 (by decide) ?_
            have hR : turnRow ρ r = dClose ρ := by clear hret hw hl M hK hZ hx hb; unfold turnRow; rw [if_neg (by omega)]; rw [if_neg (by omega)]; rw [if_neg (by omega)]; rw [if_neg (by omega)]; rw [if_pos (by omega)]
            exact hret _ _ _ _ _ dX6_turn_265 hw rfl (by rw [hR])
          refine lv_aload_n hx hb dX6_turn_144 rfl (lv_at hl 4 rfl) ?_
          refine x_get M hK hw 0 0 rfl rfl ff_X6_16 rfl dX6_turn_145 ?_
          refine lv_bipush (v := (nI 119)) hx hb dX6_turn_148 (by decide) ?_
          refine lv_iload_n hx hb dX6_turn_150 rfl (lv_at hl 2 rfl) ?_
          refine lv_iconst (v := (nI 0)) hx hb dX6_turn_151 (by decide) ?_
          refine lv_iconst (v := (nI 0)) hx hb dX6_turn_152 (by decide) ?_
          refine x_cSI (As := [.ref tr, .int (nI 119), .int (nI (turnB ρ r)), .int (nI 0), .int (nI 0)]) (k_X6_does_w l G Y tr (turnB ρ r) 0 0 ρ (hI) (by omega)) cw_X6_143 [1] M hK hZ hw hl.1 rfl (by decide) ⟨by decide, by decide⟩ ⟨Nat.zero_le _, Nat.zero_le _⟩ rfl rfl (Nat.le_of_ble_eq_true rfl) dX6_turn_153 (fun r sg h_10 H locs hw => ?_)
          obtain ⟨rfl, rfl⟩ := h_10
          have hw : xW G A s.heap [[(mo, .inr (5, [.int (nI rf), .ref tx, .int (nI sz), .ref nw, .ref tr, .ref dy, .int (nI ac), .ref kp, .ref ik, .ref td, .ref ch, .int (nI sp), .int (nI ou)]))], [(tr, .inl (Y 0, 140, .inl (rowF (dBid ρ (turnB ρ r)))))]] H locs := hw
          refine lv_pop hx hb dX6_turn_156 rfl ?_
          refine lv_goto (tgt := 265) hx hb dX6_turn_157 (by decide) ?_
          have hR : turnRow ρ r = dBid ρ (turnB ρ r) := by clear hret hw hl M hK hZ hx hb; unfold turnRow; rw [if_neg (by omega)]; rw [if_neg (by omega)]; rw [if_neg (by omega)]; rw [if_pos (by omega)]
          exact hret _ _ _ _ _ dX6_turn_265 hw rfl (by rw [hR])
        refine lv_aload_n hx hb dX6_turn_114 rfl (lv_at hl 4 rfl) ?_
        refine x_get M hK hw 0 0 rfl rfl ff_X6_16 rfl dX6_turn_115 ?_
        refine lv_bipush (v := (nI 113)) hx hb dX6_turn_118 (by decide) ?_
        refine lv_iload_n hx hb dX6_turn_120 rfl (lv_at hl 2 rfl) ?_
        refine lv_iload hx hb dX6_turn_121 (lv_at hl 1 rfl) ?_
        refine lv_iload_n hx hb dX6_turn_123 rfl (lv_at hl 5 rfl) ?_
        refine lv_sipush (v := (nI 512)) hx hb dX6_turn_124 (by decide) ?_
        refine x_idiv M (n := r / 512) dX6_turn_127 (by omega) (by omega) (by decide) rfl ?_
        refine lv_iconst (v := (nI 4)) hx hb dX6_turn_128 (by decide) ?_
        refine x_irem M (n := (r / 512) % 4) dX6_turn_129 (by omega) (by omega) (by decide) rfl ?_
        refine x_cSI (As := [.ref tr, .int (nI 113), .int (nI (turnB ρ r)), .int (nI ((r / 128) % 3)), .int (nI ((r / 512) % 4))]) (k_X6_does_q l G Y tr (turnB ρ r) ((r / 128) % 3) ((r / 512) % 4) ρ (hI) (by omega) (by omega) (by omega)) cw_X6_143 [1] M hK hZ hw hl.1 rfl (by decide) ⟨by decide, by decide⟩ ⟨Nat.zero_le _, Nat.zero_le _⟩ rfl rfl (Nat.le_of_ble_eq_true rfl) dX6_turn_130 (fun r sg h_11 H locs hw => ?_)
        obtain ⟨rfl, rfl⟩ := h_11
        have hw : xW G A s.heap [[(mo, .inr (5, [.int (nI rf), .ref tx, .int (nI sz), .ref nw, .ref tr, .ref dy, .int (nI ac), .ref kp, .ref ik, .ref td, .ref ch, .int (nI sp), .int (nI ou)]))], [(tr, .inl (Y 0, 140, .inl (rowF (dAsk ρ (turnB ρ r) ((r / 128) % 3) ((r / 512) % 4)))))]] H locs := hw
        refine lv_pop hx hb dX6_turn_133 rfl ?_
        refine lv_goto (tgt := 265) hx hb dX6_turn_134 (by decide) ?_
        have hR : turnRow ρ r = dAsk ρ (turnB ρ r) ((r / 128) % 3) ((r / 512) % 4) := by clear hret hw hl M hK hZ hx hb; unfold turnRow; rw [if_neg (by omega)]; rw [if_neg (by omega)]; rw [if_pos (by omega)]
        exact hret _ _ _ _ _ dX6_turn_265 hw rfl (by rw [hR])
      refine lv_aload_n hx hb dX6_turn_83 rfl (lv_at hl 4 rfl) ?_
      refine x_get M hK hw 0 0 rfl rfl ff_X6_16 rfl dX6_turn_84 ?_
      refine lv_bipush (v := (nI 118)) hx hb dX6_turn_87 (by decide) ?_
      refine lv_iload_n hx hb dX6_turn_89 rfl (lv_at hl 2 rfl) ?_
      refine lv_iload hx hb dX6_turn_90 (lv_at hl 1 rfl) ?_
      refine lv_iload_n hx hb dX6_turn_92 rfl (lv_at hl 5 rfl) ?_
      refine lv_sipush (v := (nI 512)) hx hb dX6_turn_93 (by decide) ?_
      refine x_idiv M (n := r / 512) dX6_turn_96 (by omega) (by omega) (by decide) rfl ?_
      refine lv_bipush (v := (nI 100)) hx hb dX6_turn_97 (by decide) ?_
      refine x_irem M (n := (r / 512) % 100) dX6_turn_99 (by omega) (by omega) (by decide) rfl ?_
      refine x_cSI (As := [.ref tr, .int (nI 118), .int (nI (turnB ρ r)), .int (nI ((r / 128) % 3)), .int (nI ((r / 512) % 100))]) (k_X6_does_v l G Y tr (turnB ρ r) ((r / 128) % 3) ((r / 512) % 100) ρ (hI) (by omega) (by omega) (by omega)) cw_X6_143 [1] M hK hZ hw hl.1 rfl (by decide) ⟨by decide, by decide⟩ ⟨Nat.zero_le _, Nat.zero_le _⟩ rfl rfl (Nat.le_of_ble_eq_true rfl) dX6_turn_100 (fun r sg h_12 H locs hw => ?_)
      obtain ⟨rfl, rfl⟩ := h_12
      have hw : xW G A s.heap [[(mo, .inr (5, [.int (nI rf), .ref tx, .int (nI sz), .ref nw, .ref tr, .ref dy, .int (nI ac), .ref kp, .ref ik, .ref td, .ref ch, .int (nI sp), .int (nI ou)]))], [(tr, .inl (Y 0, 140, .inl (rowF (dVal ρ (turnB ρ r) ((r / 128) % 3) ((r / 512) % 100)))))]] H locs := hw
      refine lv_pop hx hb dX6_turn_103 rfl ?_
      refine lv_goto (tgt := 265) hx hb dX6_turn_104 (by decide) ?_
      have hR : turnRow ρ r = dVal ρ (turnB ρ r) ((r / 128) % 3) ((r / 512) % 100) := by clear hret hw hl M hK hZ hx hb; unfold turnRow; rw [if_neg (by omega)]; rw [if_pos (by omega)]
      exact hret _ _ _ _ _ dX6_turn_265 hw rfl (by rw [hR])
    refine lv_aload_n hx hb dX6_turn_47 rfl (lv_at hl 4 rfl) ?_
    refine x_get M hK hw 0 0 rfl rfl ff_X6_16 rfl dX6_turn_48 ?_
    refine lv_bipush (v := (nI 98)) hx hb dX6_turn_51 (by decide) ?_
    refine lv_iload_n hx hb dX6_turn_53 rfl (lv_at hl 5 rfl) ?_
    refine lv_bipush (v := (nI 16)) hx hb dX6_turn_54 (by decide) ?_
    refine x_idiv M (n := r / 16) dX6_turn_56 (by omega) (by omega) (by decide) rfl ?_
    refine lv_bipush (v := (nI 20)) hx hb dX6_turn_57 (by decide) ?_
    refine x_irem M (n := (r / 16) % 20) dX6_turn_59 (by omega) (by omega) (by decide) rfl ?_
    refine lv_iconst (v := (nI 1)) hx hb dX6_turn_60 (by decide) ?_
    refine lv_iload_n hx hb dX6_turn_61 rfl (lv_at hl 5 rfl) ?_
    refine lv_sipush (v := (nI 512)) hx hb dX6_turn_62 (by decide) ?_
    refine x_idiv M (n := r / 512) dX6_turn_65 (by omega) (by omega) (by decide) rfl ?_
    refine lv_iconst (v := (nI 5)) hx hb dX6_turn_66 (by decide) ?_
    refine x_irem M (n := (r / 512) % 5) dX6_turn_67 (by omega) (by omega) (by decide) rfl ?_
    refine x_iadd M (n := 1 + ((r / 512) % 5)) dX6_turn_68 rfl ?_
    refine lv_iconst (v := (nI 0)) hx hb dX6_turn_69 (by decide) ?_
    refine x_cSI (As := [.ref tr, .int (nI 98), .int (nI ((r / 16) % 20)), .int (nI (1 + ((r / 512) % 5))), .int (nI 0)]) (k_X6_does_b l G Y tr ((r / 16) % 20) (1 + ((r / 512) % 5)) 0 ρ (hI) (by omega) (by omega)) cw_X6_143 [1] M hK hZ hw hl.1 rfl (by decide) ⟨by decide, by decide⟩ ⟨Nat.zero_le _, Nat.zero_le _⟩ rfl rfl (Nat.le_of_ble_eq_true rfl) dX6_turn_70 (fun r sg h_13 H locs hw => ?_)
    obtain ⟨rfl, rfl⟩ := h_13
    have hw : xW G A s.heap [[(mo, .inr (5, [.int (nI rf), .ref tx, .int (nI sz), .ref nw, .ref tr, .ref dy, .int (nI ac), .ref kp, .ref ik, .ref td, .ref ch, .int (nI sp), .int (nI ou)]))], [(tr, .inl (Y 0, 140, .inl (rowF (dJoin ρ ((r / 16) % 20) (1 + ((r / 512) % 5))))))]] H locs := hw
    refine lv_pop hx hb dX6_turn_73 rfl ?_
    refine lv_goto (tgt := 265) hx hb dX6_turn_74 (by decide) ?_
    have hR : turnRow ρ r = dJoin ρ ((r / 16) % 20) (1 + ((r / 512) % 5)) := by clear hret hw hl M hK hZ hx hb; unfold turnRow; rw [if_pos (by omega)]
    exact hret _ _ _ _ _ dX6_turn_265 hw rfl (by rw [hR])
  refine lv_aload_n hx hb dX6_turn_0 rfl (lv_at hl 0 rfl) ?_
  refine x_get M hK hw 0 0 rfl rfl ff_X6_16 rfl dX6_turn_1 ?_
  refine lv_iconst (v := (nI 4)) hx hb dX6_turn_4 (by decide) ?_
  refine x_iald M hK hw 1 0 rfl rfl (by decide) (by decide) dX6_turn_5 ?_
  refine x_topN (n := ρ 4) rfl ?_
  have q_14 : ρ 4 ≤ 6 := hI.n6
  refine x_zne M (tgt := 13) (by omega) dX6_turn_6 (by decide) (fun c_15 => ?_) (fun c_15 => ?_)
  · refine lv_aload_n hx hb dX6_turn_13 rfl (lv_at hl 0 rfl) ?_
    refine x_get M hK hw 0 0 rfl rfl ff_X6_16 rfl dX6_turn_14 ?_
    refine lv_iconst (v := (nI 4)) hx hb dX6_turn_17 (by decide) ?_
    refine x_iald M hK hw 1 0 rfl rfl (by decide) (by decide) dX6_turn_18 ?_
    refine x_topN (n := ρ 4) rfl ?_
    exact L19 (ρ 4) (by first | rw [if_pos (by omega)] | rw [if_neg (by omega)]) _ _ hw _ (lv_sub hl [0, 1] rfl)
  refine lv_iconst (v := (nI 1)) hx hb dX6_turn_9 (by decide) ?_
  refine lv_goto (tgt := 19) hx hb dX6_turn_10 (by decide) ?_
  exact L19 1 (by first | rw [if_pos (by omega)] | rw [if_neg (by omega)]) _ _ hw _ (lv_sub hl [0, 1] rfl)
set_option maxHeartbeats 4000000 in
set_option maxRecDepth 20000 in
theorem k_X3_takeTurn (l : Launch) (G : va_G) (Y : Nat → Nat) (h r : Nat) (ρ : Nat → Nat) (γ : Nat → Nat → Nat) (hI : Inv ρ) (hr : r < 2 ^ 31) : CtV l yX3_takeTurn cX3_takeTurn 6 5 117 [.ref h, .int (nI r)] [aucW Y h ρ γ] (fun sg => ∃ γ' : Nat → Nat → Nat, sg = [aucW Y h (turnRow ρ r) γ']) G Y := by
  refine x_ofV (by decide) (Nat.le_of_ble_eq_true rfl) (fun p e s m args below meth c A ls Q M hK hZ hw hl hret => ?_)
  obtain ⟨hx, hb, -⟩ := id M
  have hl : lv_has ls 6 [(0, .ref h), (1, .int (nI r))] := hl
  have := hI.n6
  have := hI.over
  have := hI.keep
  have := hI.stepp
  have L15 : ∀ (n : Nat), (n = if ρ 4 = 0 then 1 else ρ 4) → ∀ (H : Heap) (locs : List Loc), xW G A s.heap [aucW Y h ρ γ] H locs → ∀ (ls : Array Slot), lv_has ls 6 [(0, .ref h), (1, .int (nI r))] → W p l e (xRm 5 117) s m args below meth c H locs 0 0 Q (F0 m 15 ls [.int (nI n)]) := by
    intro n hn H locs hw ls hl
    have hn0 : 0 < n := by rw [hn]; split <;> omega
    have hn6 : n ≤ 6 := by rw [hn]; split <;> omega
    refine lv_istore_n (lv' := [(2, .int (nI n)), (0, .ref h), (1, .int (nI r))]) hx hb dX3_takeTurn_15 rfl hl (by decide) rfl (fun ls hl => ?_)
    have htb : r / 16 % n < n := Nat.mod_lt _ hn0
    have htb2 : turnB ρ r < n := by unfold turnB; rw [← hn]; exact htb
    refine lv_iload_n hx hb dX3_takeTurn_16 rfl (lv_at hl 2 rfl) ?_
    refine lv_bipush (v := (nI 16)) hx hb dX3_takeTurn_17 (by decide) ?_
    refine x_idiv M (n := r / 16) dX3_takeTurn_19 (by omega) (by omega) (by decide) rfl ?_
    refine lv_iload_n hx hb dX3_takeTurn_20 rfl (lv_at hl 0 rfl) ?_
    refine x_irem M (n := (r / 16) % n) dX3_takeTurn_21 (by omega) (by omega) (by omega) rfl ?_
    refine x_topN (n := (turnB ρ r)) (congrArg nI (by unfold turnB; rw [← hn])) ?_
    refine lv_istore_n (lv' := [(3, .int (nI (turnB ρ r))), (2, .int (nI n)), (0, .ref h), (1, .int (nI r))]) hx hb dX3_takeTurn_22 rfl hl (by decide) rfl (fun ls hl => ?_)
    refine lv_iload_n hx hb dX3_takeTurn_23 rfl (lv_at hl 3 rfl) ?_
    refine lv_sipush (v := (nI 128)) hx hb dX3_takeTurn_24 (by decide) ?_
    refine x_idiv M (n := r / 128) dX3_takeTurn_27 (by omega) (by omega) (by decide) rfl ?_
    refine lv_iconst (v := (nI 3)) hx hb dX3_takeTurn_28 (by decide) ?_
    refine x_irem M (n := (r / 128) % 3) dX3_takeTurn_29 (by omega) (by omega) (by decide) rfl ?_
    refine lv_istore (lv' := [(4, .int (nI ((r / 128) % 3))), (3, .int (nI (turnB ρ r))), (2, .int (nI n)), (0, .ref h), (1, .int (nI r))]) hx hb dX3_takeTurn_30 hl (by decide) rfl (fun ls hl => ?_)
    refine lv_iload_n hx hb dX3_takeTurn_32 rfl (lv_at hl 4 rfl) ?_
    refine lv_bipush (v := (nI 16)) hx hb dX3_takeTurn_33 (by decide) ?_
    refine x_irem M (n := r % 16) dX3_takeTurn_35 (by omega) (by omega) (by decide) rfl ?_
    refine lv_istore (lv' := [(5, .int (nI (r % 16))), (4, .int (nI ((r / 128) % 3))), (3, .int (nI (turnB ρ r))), (2, .int (nI n)), (0, .ref h), (1, .int (nI r))]) hx hb dX3_takeTurn_36 hl (by decide) rfl (fun ls hl => ?_)
    refine lv_iload hx hb dX3_takeTurn_38 (lv_at hl 0 rfl) ?_
    refine x_zne M (tgt := 67) (by omega) dX3_takeTurn_40 (by decide) (fun c_1 => ?_) (fun c_1 => ?_)
    · refine lv_iload hx hb dX3_takeTurn_67 (lv_at hl 0 rfl) ?_
      refine lv_iconst (v := (nI 3)) hx hb dX3_takeTurn_69 (by decide) ?_
      refine x_cgt M (tgt := 92) (by omega) (by decide) dX3_takeTurn_70 (by decide) (fun c_2 => ?_) (fun c_2 => ?_)
      · refine lv_iload hx hb dX3_takeTurn_92 (lv_at hl 0 rfl) ?_
        refine lv_bipush (v := (nI 6)) hx hb dX3_takeTurn_94 (by decide) ?_
        refine x_cgt M (tgt := 117) (by omega) (by decide) dX3_takeTurn_96 (by decide) (fun c_3 => ?_) (fun c_3 => ?_)
        · refine lv_iload hx hb dX3_takeTurn_117 (lv_at hl 0 rfl) ?_
          refine lv_bipush (v := (nI 10)) hx hb dX3_takeTurn_119 (by decide) ?_
          refine x_cgt M (tgt := 133) (by omega) (by decide) dX3_takeTurn_121 (by decide) (fun c_4 => ?_) (fun c_4 => ?_)
          · refine lv_iload hx hb dX3_takeTurn_133 (lv_at hl 0 rfl) ?_
            refine lv_bipush (v := (nI 13)) hx hb dX3_takeTurn_135 (by decide) ?_
            refine x_cgt M (tgt := 148) (by omega) (by decide) dX3_takeTurn_137 (by decide) (fun c_5 => ?_) (fun c_5 => ?_)
            · refine lv_aload_n hx hb dX3_takeTurn_148 rfl (lv_at hl 4 rfl) ?_
              refine lv_iload_n hx hb dX3_takeTurn_149 rfl (lv_at hl 2 rfl) ?_
              refine lv_iload_n hx hb dX3_takeTurn_150 rfl (lv_at hl 5 rfl) ?_
              refine lv_sipush (v := (nI 512)) hx hb dX3_takeTurn_151 (by decide) ?_
              refine x_idiv M (n := r / 512) dX3_takeTurn_154 (by omega) (by omega) (by decide) rfl ?_
              refine lv_iconst (v := (nI 3)) hx hb dX3_takeTurn_155 (by decide) ?_
              refine x_irem M (n := (r / 512) % 3) dX3_takeTurn_156 (by omega) (by omega) (by decide) rfl ?_
              refine lv_iload_n hx hb dX3_takeTurn_157 rfl (lv_at hl 5 rfl) ?_
              refine lv_sipush (v := (nI 2048)) hx hb dX3_takeTurn_158 (by decide) ?_
              refine x_idiv M (n := r / 2048) dX3_takeTurn_161 (by omega) (by omega) (by decide) rfl ?_
              refine lv_iconst (v := (nI 3)) hx hb dX3_takeTurn_162 (by decide) ?_
              refine x_irem M (n := (r / 2048) % 3) dX3_takeTurn_163 (by omega) (by omega) (by decide) rfl ?_
              refine lv_iload_n hx hb dX3_takeTurn_164 rfl (lv_at hl 5 rfl) ?_
              refine lv_sipush (v := (nI 8192)) hx hb dX3_takeTurn_165 (by decide) ?_
              refine x_idiv M (n := r / 8192) dX3_takeTurn_168 (by omega) (by omega) (by decide) rfl ?_
              refine lv_iconst (v := (nI 3)) hx hb dX3_takeTurn_169 (by decide) ?_
              refine x_irem M (n := (r / 8192) % 3) dX3_takeTurn_170 (by omega) (by omega) (by decide) rfl ?_
              refine lv_iconst (v := (nI 1)) hx hb dX3_takeTurn_171 (by decide) ?_
              refine lv_iload_n hx hb dX3_takeTurn_172 rfl (lv_at hl 5 rfl) ?_
              refine lv_ldc (v := (nI 32768)) hx hb M.2.2.2.1 (M.2.2.2.2 _ mw_959) dX3_takeTurn_173 ?_
              refine x_idiv M (n := r / 32768) dX3_takeTurn_175 (by omega) (by omega) (by decide) rfl ?_
              refine lv_sipush (v := (nI 200)) hx hb dX3_takeTurn_176 (by decide) ?_
              refine x_irem M (n := (r / 32768) % 200) dX3_takeTurn_179 (by omega) (by omega) (by decide) rfl ?_
              refine x_iadd M (n := 1 + ((r / 32768) % 200)) dX3_takeTurn_180 rfl ?_
              refine x_cVI (As := [.int (nI (turnB ρ r)), .int (nI ((r / 512) % 3)), .int (nI ((r / 2048) % 3)), .int (nI ((r / 8192) % 3)), .int (nI (1 + ((r / 32768) % 200)))]) (k_X1_tryAdd l G Y h (turnB ρ r) ((r / 512) % 3) ((r / 2048) % 3) ((r / 8192) % 3) (1 + ((r / 32768) % 200)) ρ γ (hI) (by omega) (by omega) (by omega) (by omega) (by omega)) cw_X3_58 [0] 0 0 M hK hZ hw hl.1 rfl (by decide) rfl rfl rfl ⟨by decide, by decide⟩ ⟨Nat.zero_le _, Nat.zero_le _⟩ rfl rfl (Nat.le_of_ble_eq_true rfl) dX3_takeTurn_181 (fun r sg h_6 H locs hw => ?_)
              obtain ⟨rfl, γa7, rfl⟩ := h_6
              have hw : xW G A s.heap [aucW Y h (dAdd ρ (turnB ρ r) ((r / 512) % 3) ((r / 2048) % 3) ((r / 8192) % 3) (1 + ((r / 32768) % 200))) γa7] H locs := hw
              refine lv_pop hx hb dX3_takeTurn_184 rfl ?_
              have hR : turnRow ρ r = dAdd ρ (turnB ρ r) ((r / 512) % 3) ((r / 2048) % 3) ((r / 8192) % 3) (1 + ((r / 32768) % 200)) := by clear hret hw hl M hK hZ hx hb; unfold turnRow; rw [if_neg (by omega)]; rw [if_neg (by omega)]; rw [if_neg (by omega)]; rw [if_neg (by omega)]; rw [if_neg (by omega)]
              exact hret _ _ _ _ _ dX3_takeTurn_185 hw rfl ⟨γa7, by rw [hR]⟩
            refine lv_aload_n hx hb dX3_takeTurn_140 rfl (lv_at hl 4 rfl) ?_
            refine x_cVI (As := []) (k_X1_tryClose l G Y h ρ γ (hI)) cw_X3_19 [0] 0 0 M hK hZ hw hl.1 rfl (by decide) rfl rfl rfl ⟨by decide, by decide⟩ ⟨Nat.zero_le _, Nat.zero_le _⟩ rfl rfl (Nat.le_of_ble_eq_true rfl) dX3_takeTurn_141 (fun r sg h_8 H locs hw => ?_)
            obtain ⟨rfl, γa9, rfl⟩ := h_8
            have hw : xW G A s.heap [aucW Y h (dClose ρ) γa9] H locs := hw
            refine lv_pop hx hb dX3_takeTurn_144 rfl ?_
            refine lv_goto (tgt := 185) hx hb dX3_takeTurn_145 (by decide) ?_
            have hR : turnRow ρ r = dClose ρ := by clear hret hw hl M hK hZ hx hb; unfold turnRow; rw [if_neg (by omega)]; rw [if_neg (by omega)]; rw [if_neg (by omega)]; rw [if_neg (by omega)]; rw [if_pos (by omega)]
            exact hret _ _ _ _ _ dX3_takeTurn_185 hw rfl ⟨γa9, by rw [hR]⟩
          refine lv_aload_n hx hb dX3_takeTurn_124 rfl (lv_at hl 4 rfl) ?_
          refine lv_iload_n hx hb dX3_takeTurn_125 rfl (lv_at hl 2 rfl) ?_
          refine x_cVI (As := [.int (nI (turnB ρ r))]) (k_X1_tryBid l G Y h (turnB ρ r) ρ γ (hI) (by omega)) cw_X3_15 [0] 0 0 M hK hZ hw hl.1 rfl (by decide) rfl rfl rfl ⟨by decide, by decide⟩ ⟨Nat.zero_le _, Nat.zero_le _⟩ rfl rfl (Nat.le_of_ble_eq_true rfl) dX3_takeTurn_126 (fun r sg h_10 H locs hw => ?_)
          obtain ⟨rfl, γa11, rfl⟩ := h_10
          have hw : xW G A s.heap [aucW Y h (dBid ρ (turnB ρ r)) γa11] H locs := hw
          refine lv_pop hx hb dX3_takeTurn_129 rfl ?_
          refine lv_goto (tgt := 185) hx hb dX3_takeTurn_130 (by decide) ?_
          have hR : turnRow ρ r = dBid ρ (turnB ρ r) := by clear hret hw hl M hK hZ hx hb; unfold turnRow; rw [if_neg (by omega)]; rw [if_neg (by omega)]; rw [if_neg (by omega)]; rw [if_pos (by omega)]
          exact hret _ _ _ _ _ dX3_takeTurn_185 hw rfl ⟨γa11, by rw [hR]⟩
        refine lv_aload_n hx hb dX3_takeTurn_99 rfl (lv_at hl 4 rfl) ?_
        refine lv_iload_n hx hb dX3_takeTurn_100 rfl (lv_at hl 2 rfl) ?_
        refine lv_iload hx hb dX3_takeTurn_101 (lv_at hl 1 rfl) ?_
        refine lv_iload_n hx hb dX3_takeTurn_103 rfl (lv_at hl 5 rfl) ?_
        refine lv_sipush (v := (nI 512)) hx hb dX3_takeTurn_104 (by decide) ?_
        refine x_idiv M (n := r / 512) dX3_takeTurn_107 (by omega) (by omega) (by decide) rfl ?_
        refine lv_iconst (v := (nI 4)) hx hb dX3_takeTurn_108 (by decide) ?_
        refine x_irem M (n := (r / 512) % 4) dX3_takeTurn_109 (by omega) (by omega) (by decide) rfl ?_
        refine x_cVI (As := [.int (nI (turnB ρ r)), .int (nI ((r / 128) % 3)), .int (nI ((r / 512) % 4))]) (k_X1_tryAsk l G Y h (turnB ρ r) ((r / 128) % 3) ((r / 512) % 4) ρ γ (hI) (by omega) (by omega) (by omega)) cw_X3_9 [0] 0 0 M hK hZ hw hl.1 rfl (by decide) rfl rfl rfl ⟨by decide, by decide⟩ ⟨Nat.zero_le _, Nat.zero_le _⟩ rfl rfl (Nat.le_of_ble_eq_true rfl) dX3_takeTurn_110 (fun r sg h_12 H locs hw => ?_)
        obtain ⟨rfl, γa13, rfl⟩ := h_12
        have hw : xW G A s.heap [aucW Y h (dAsk ρ (turnB ρ r) ((r / 128) % 3) ((r / 512) % 4)) γa13] H locs := hw
        refine lv_pop hx hb dX3_takeTurn_113 rfl ?_
        refine lv_goto (tgt := 185) hx hb dX3_takeTurn_114 (by decide) ?_
        have hR : turnRow ρ r = dAsk ρ (turnB ρ r) ((r / 128) % 3) ((r / 512) % 4) := by clear hret hw hl M hK hZ hx hb; unfold turnRow; rw [if_neg (by omega)]; rw [if_neg (by omega)]; rw [if_pos (by omega)]
        exact hret _ _ _ _ _ dX3_takeTurn_185 hw rfl ⟨γa13, by rw [hR]⟩
      refine lv_aload_n hx hb dX3_takeTurn_73 rfl (lv_at hl 4 rfl) ?_
      refine lv_iload_n hx hb dX3_takeTurn_74 rfl (lv_at hl 2 rfl) ?_
      refine lv_iload hx hb dX3_takeTurn_75 (lv_at hl 1 rfl) ?_
      refine lv_iload_n hx hb dX3_takeTurn_77 rfl (lv_at hl 5 rfl) ?_
      refine lv_sipush (v := (nI 512)) hx hb dX3_takeTurn_78 (by decide) ?_
      refine x_idiv M (n := r / 512) dX3_takeTurn_81 (by omega) (by omega) (by decide) rfl ?_
      refine lv_bipush (v := (nI 100)) hx hb dX3_takeTurn_82 (by decide) ?_
      refine x_irem M (n := (r / 512) % 100) dX3_takeTurn_84 (by omega) (by omega) (by decide) rfl ?_
      refine x_cVI (As := [.int (nI (turnB ρ r)), .int (nI ((r / 128) % 3)), .int (nI ((r / 512) % 100))]) (k_X1_tryValue l G Y h (turnB ρ r) ((r / 128) % 3) ((r / 512) % 100) ρ γ (hI) (by omega) (by omega) (by omega)) cw_X3_23 [0] 0 0 M hK hZ hw hl.1 rfl (by decide) rfl rfl rfl ⟨by decide, by decide⟩ ⟨Nat.zero_le _, Nat.zero_le _⟩ rfl rfl (Nat.le_of_ble_eq_true rfl) dX3_takeTurn_85 (fun r sg h_14 H locs hw => ?_)
      obtain ⟨rfl, γa15, rfl⟩ := h_14
      have hw : xW G A s.heap [aucW Y h (dVal ρ (turnB ρ r) ((r / 128) % 3) ((r / 512) % 100)) γa15] H locs := hw
      refine lv_pop hx hb dX3_takeTurn_88 rfl ?_
      refine lv_goto (tgt := 185) hx hb dX3_takeTurn_89 (by decide) ?_
      have hR : turnRow ρ r = dVal ρ (turnB ρ r) ((r / 128) % 3) ((r / 512) % 100) := by clear hret hw hl M hK hZ hx hb; unfold turnRow; rw [if_neg (by omega)]; rw [if_pos (by omega)]
      exact hret _ _ _ _ _ dX3_takeTurn_185 hw rfl ⟨γa15, by rw [hR]⟩
    refine lv_aload_n hx hb dX3_takeTurn_43 rfl (lv_at hl 4 rfl) ?_
    refine lv_iload_n hx hb dX3_takeTurn_44 rfl (lv_at hl 5 rfl) ?_
    refine lv_bipush (v := (nI 16)) hx hb dX3_takeTurn_45 (by decide) ?_
    refine x_idiv M (n := r / 16) dX3_takeTurn_47 (by omega) (by omega) (by decide) rfl ?_
    refine lv_bipush (v := (nI 20)) hx hb dX3_takeTurn_48 (by decide) ?_
    refine x_irem M (n := (r / 16) % 20) dX3_takeTurn_50 (by omega) (by omega) (by decide) rfl ?_
    refine lv_iconst (v := (nI 1)) hx hb dX3_takeTurn_51 (by decide) ?_
    refine lv_iload_n hx hb dX3_takeTurn_52 rfl (lv_at hl 5 rfl) ?_
    refine lv_sipush (v := (nI 512)) hx hb dX3_takeTurn_53 (by decide) ?_
    refine x_idiv M (n := r / 512) dX3_takeTurn_56 (by omega) (by omega) (by decide) rfl ?_
    refine lv_iconst (v := (nI 5)) hx hb dX3_takeTurn_57 (by decide) ?_
    refine x_irem M (n := (r / 512) % 5) dX3_takeTurn_58 (by omega) (by omega) (by decide) rfl ?_
    refine x_iadd M (n := 1 + ((r / 512) % 5)) dX3_takeTurn_59 rfl ?_
    refine x_cVI (As := [.int (nI ((r / 16) % 20)), .int (nI (1 + ((r / 512) % 5)))]) (k_X1_tryJoin l G Y h ((r / 16) % 20) (1 + ((r / 512) % 5)) ρ γ (hI) (by omega) (by omega)) cw_X3_54 [0] 0 0 M hK hZ hw hl.1 rfl (by decide) rfl rfl rfl ⟨by decide, by decide⟩ ⟨Nat.zero_le _, Nat.zero_le _⟩ rfl rfl (Nat.le_of_ble_eq_true rfl) dX3_takeTurn_60 (fun r sg h_16 H locs hw => ?_)
    obtain ⟨rfl, γa17, rfl⟩ := h_16
    have hw : xW G A s.heap [aucW Y h (dJoin ρ ((r / 16) % 20) (1 + ((r / 512) % 5))) γa17] H locs := hw
    refine lv_pop hx hb dX3_takeTurn_63 rfl ?_
    refine lv_goto (tgt := 185) hx hb dX3_takeTurn_64 (by decide) ?_
    have hR : turnRow ρ r = dJoin ρ ((r / 16) % 20) (1 + ((r / 512) % 5)) := by clear hret hw hl M hK hZ hx hb; unfold turnRow; rw [if_pos (by omega)]
    exact hret _ _ _ _ _ dX3_takeTurn_185 hw rfl ⟨γa17, by rw [hR]⟩
  refine lv_aload_n hx hb dX3_takeTurn_0 rfl (lv_at hl 0 rfl) ?_
  refine x_get M hK hw 0 0 rfl rfl ff_X3_50 rfl dX3_takeTurn_1 ?_
  refine x_zle M (tgt := 14) (by omega) dX3_takeTurn_4 (by decide) (fun c_18 => ?_) (fun c_18 => ?_)
  · refine lv_iconst (v := (nI 1)) hx hb dX3_takeTurn_14 (by decide) ?_
    exact L15 1 (by first | rw [if_pos (by omega)] | rw [if_neg (by omega)]) _ _ hw _ (lv_sub hl [0, 1] rfl)
  refine lv_aload_n hx hb dX3_takeTurn_7 rfl (lv_at hl 0 rfl) ?_
  refine x_get M hK hw 0 0 rfl rfl ff_X3_50 rfl dX3_takeTurn_8 ?_
  refine lv_goto (tgt := 15) hx hb dX3_takeTurn_11 (by decide) ?_
  exact L15 (ρ 4) (by first | rw [if_pos (by omega)] | rw [if_neg (by omega)]) _ _ hw _ (lv_sub hl [0, 1] rfl)
set_option maxHeartbeats 4000000 in
set_option maxRecDepth 20000 in
theorem k_X3_succeeds (l : Launch) (G : va_G) (Y : Nat → Nat) (h g : Nat) (ρ : Nat → Nat) (γ : Nat → Nat → Nat) (hI : Inv ρ) (hg : g < 100000) : CtI l yX3_succeeds cX3_succeeds 5 .boolean 5 116 [.ref h, .int (nI g)] [aucW Y h ρ γ] (fun r sg => r = b2i (grpOk ρ g) ∧ ∃ γ' : Nat → Nat → Nat, sg = [aucW Y h (grpRow ρ g) γ']) G Y := by
  refine x_ofI (by decide) (Nat.le_of_ble_eq_true rfl) (fun p e s m args below meth c A ls Q M hK hZ hw hl hret => ?_)
  obtain ⟨hx, hb, -⟩ := id M
  have hl : lv_has ls 5 [(0, .ref h), (1, .int (nI g))] := hl
  have := hI.n6
  have := hI.over
  have := hI.keep
  have := hI.stepp
  have hq3 : g % 1000 = 100 * (g / 100 % 10) + 10 * (g / 10 % 10) + g % 10 := by omega
  have hq4 : g % 10000 = 1000 * (g / 1000 % 10) + g % 1000 := by omega
  refine lv_iload_n hx hb dX3_succeeds_0 rfl (lv_at hl 1 rfl) ?_
  refine lv_sipush (v := (nI 1000)) hx hb dX3_succeeds_1 (by decide) ?_
  refine x_idiv M (n := g / 1000) dX3_succeeds_4 (by omega) (by omega) (by decide) rfl ?_
  refine lv_bipush (v := (nI 10)) hx hb dX3_succeeds_5 (by decide) ?_
  refine x_irem M (n := (g / 1000) % 10) dX3_succeeds_7 (by omega) (by omega) (by decide) rfl ?_
  refine lv_istore_n (lv' := [(2, .int (nI ((g / 1000) % 10))), (0, .ref h), (1, .int (nI g))]) hx hb dX3_succeeds_8 rfl hl (by decide) rfl (fun ls hl => ?_)
  refine lv_iload_n hx hb dX3_succeeds_9 rfl (lv_at hl 2 rfl) ?_
  refine lv_bipush (v := (nI 100)) hx hb dX3_succeeds_10 (by decide) ?_
  refine x_idiv M (n := g / 100) dX3_succeeds_12 (by omega) (by omega) (by decide) rfl ?_
  refine lv_bipush (v := (nI 10)) hx hb dX3_succeeds_13 (by decide) ?_
  refine x_irem M (n := (g / 100) % 10) dX3_succeeds_15 (by omega) (by omega) (by decide) rfl ?_
  refine lv_istore_n (lv' := [(3, .int (nI ((g / 100) % 10))), (2, .int (nI ((g / 1000) % 10))), (0, .ref h), (1, .int (nI g))]) hx hb dX3_succeeds_16 rfl hl (by decide) rfl (fun ls hl => ?_)
  refine lv_iload_n hx hb dX3_succeeds_17 rfl (lv_at hl 3 rfl) ?_
  refine lv_bipush (v := (nI 100)) hx hb dX3_succeeds_18 (by decide) ?_
  refine x_irem M (n := g % 100) dX3_succeeds_20 (by omega) (by omega) (by decide) rfl ?_
  refine x_topN (n := 10 * (g / 10 % 10) + (g % 10)) (congrArg nI (by omega)) ?_
  refine lv_istore (lv' := [(4, .int (nI (10 * (g / 10 % 10) + (g % 10)))), (3, .int (nI ((g / 100) % 10))), (2, .int (nI ((g / 1000) % 10))), (0, .ref h), (1, .int (nI g))]) hx hb dX3_succeeds_21 hl (by decide) rfl (fun ls hl => ?_)
  refine lv_iload_n hx hb dX3_succeeds_23 rfl (lv_at hl 4 rfl) ?_
  refine lv_sipush (v := (nI 10000)) hx hb dX3_succeeds_24 (by decide) ?_
  refine x_idiv M (n := g / 10000) dX3_succeeds_27 (by omega) (by omega) (by decide) rfl ?_
  rcases (show g / 10000 = 0 ∨ g / 10000 = 1 ∨ g / 10000 = 2 ∨ g / 10000 = 3 ∨ g / 10000 = 4 ∨ g / 10000 = 5 ∨ g / 10000 = 6 ∨ g / 10000 = 7 ∨ g / 10000 = 8 ∨ g / 10000 = 9 by omega) with e_1 | e_1 | e_1 | e_1 | e_1 | e_1 | e_1 | e_1 | e_1 | e_1
  · refine x_topN (n := 0) (congrArg nI e_1) ?_
    refine lv_tableOut (tgt := 279) hx hb dX3_succeeds_28 (by decide) (by decide) ?_
    refine lv_iconst (v := (nI 0)) hx hb dX3_succeeds_279 (by decide) ?_
    have hR : grpRow ρ g = ρ := by clear hret hw hl M hK hZ hx hb; unfold grpRow cRow; rw [if_neg (by omega), if_neg (by omega), if_neg (by omega), if_neg (by omega), if_neg (by omega), if_neg (by omega)]
    exact hret _ _ _ (nI 0) _ _ dX3_succeeds_280 hw rfl rfl ⟨b2i_f (by clear hret hw hl M hK hZ hx hb; unfold grpOk cOk; rw [if_neg (by omega), if_neg (by omega), if_neg (by omega), if_neg (by omega), if_neg (by omega), if_neg (by omega), if_neg (by omega), if_neg (by omega), if_neg (by omega)]), γ, by rw [hR]⟩
  · refine x_topN (n := 1) (congrArg nI e_1) ?_
    refine lv_tableIn (tgt := 80) hx hb dX3_succeeds_28 (by decide) (by decide) rfl (by decide) ?_
    refine lv_iload_n hx hb dX3_succeeds_80 rfl (lv_at hl 4 rfl) ?_
    refine lv_bipush (v := (nI 10)) hx hb dX3_succeeds_81 (by decide) ?_
    refine x_irem M (n := g % 10) dX3_succeeds_83 (by omega) (by omega) (by decide) rfl ?_
    refine x_zne M (tgt := 105) (by omega) dX3_succeeds_84 (by decide) (fun c_2 => ?_) (fun c_2 => ?_)
    · refine lv_iconst (v := (nI 0)) hx hb dX3_succeeds_105 (by decide) ?_
      have hR : grpRow ρ g = ρ := by clear hret hw hl M hK hZ hx hb; unfold grpRow cRow; rw [if_pos (by omega)]; rw [if_neg (by first | assumption | omega)]
      exact hret _ _ _ (nI 0) _ _ dX3_succeeds_106 hw rfl rfl ⟨b2i_f (by clear hret hw hl M hK hZ hx hb; unfold grpOk cOk; rw [if_pos (by omega)]; exact decide_eq_false (by omega)), γ, by rw [hR]⟩
    refine lv_aload_n hx hb dX3_succeeds_87 rfl (lv_at hl 3 rfl) ?_
    refine lv_iload_n hx hb dX3_succeeds_88 rfl (lv_at hl 2 rfl) ?_
    refine lv_iload_n hx hb dX3_succeeds_89 rfl (lv_at hl 1 rfl) ?_
    refine lv_iload hx hb dX3_succeeds_90 (lv_at hl 0 rfl) ?_
    refine lv_bipush (v := (nI 10)) hx hb dX3_succeeds_92 (by decide) ?_
    refine x_idiv M (n := (10 * (g / 10 % 10) + (g % 10)) / 10) dX3_succeeds_94 (by omega) (by omega) (by decide) rfl ?_
    refine x_topN (n := (g / 10 % 10)) (congrArg nI (by omega)) ?_
    refine x_cVI (As := [.int (nI ((g / 1000) % 10)), .int (nI ((g / 100) % 10)), .int (nI (g / 10 % 10))]) (k_X1_tryAsk l G Y h ((g / 1000) % 10) ((g / 100) % 10) (g / 10 % 10) ρ γ (hI) (by omega) (by omega) (by omega)) cw_X3_9 [0] 0 0 M hK hZ hw hl.1 rfl (by decide) rfl rfl rfl ⟨by decide, by decide⟩ ⟨Nat.zero_le _, Nat.zero_le _⟩ rfl rfl (Nat.le_of_ble_eq_true rfl) dX3_succeeds_95 (fun r sg h_3 H locs hw => ?_)
    obtain ⟨rfl, γa4, rfl⟩ := h_3
    have hw : xW G A s.heap [aucW Y h (dAsk ρ ((g / 1000) % 10) ((g / 100) % 10) (g / 10 % 10)) γa4] H locs := hw
    refine x_beq M (tgt := 105) dX3_succeeds_98 (by decide) (fun c_5 => ?_) (fun c_5 => ?_)
    · refine lv_iconst (v := (nI 0)) hx hb dX3_succeeds_105 (by decide) ?_
      have hR : grpRow ρ g = dAsk ρ ((g / 1000) % 10) ((g / 100) % 10) (g / 10 % 10) := by clear hret hw hl M hK hZ hx hb; unfold grpRow cRow; rw [if_pos (by omega)]; rw [if_pos (by first | assumption | omega)]
      simp only [decide_eq_true_eq, decide_eq_false_iff_not] at c_5
      exact hret _ _ _ (nI 0) _ _ dX3_succeeds_106 hw rfl rfl ⟨b2i_f (by clear hret hw hl M hK hZ hx hb; unfold grpOk cOk; rw [if_pos (by omega)]; exact decide_eq_false (by omega)), γa4, by rw [hR]⟩
    refine lv_iconst (v := (nI 1)) hx hb dX3_succeeds_101 (by decide) ?_
    refine lv_goto (tgt := 106) hx hb dX3_succeeds_102 (by decide) ?_
    have hR : grpRow ρ g = dAsk ρ ((g / 1000) % 10) ((g / 100) % 10) (g / 10 % 10) := by clear hret hw hl M hK hZ hx hb; unfold grpRow cRow; rw [if_pos (by omega)]; rw [if_pos (by first | assumption | omega)]
    simp only [decide_eq_true_eq, decide_eq_false_iff_not] at c_5
    exact hret _ _ _ (nI 1) _ _ dX3_succeeds_106 hw rfl rfl ⟨b2i_t (by clear hret hw hl M hK hZ hx hb; unfold grpOk cOk; rw [if_pos (by omega)]; exact decide_eq_true (by omega)), γa4, by rw [hR]⟩
  · refine x_topN (n := 2) (congrArg nI e_1) ?_
    refine lv_tableIn (tgt := 107) hx hb dX3_succeeds_28 (by decide) (by decide) rfl (by decide) ?_
    refine lv_iload_n hx hb dX3_succeeds_107 rfl (lv_at hl 4 rfl) ?_
    refine lv_sipush (v := (nI 1000)) hx hb dX3_succeeds_108 (by decide) ?_
    refine x_irem M (n := g % 1000) dX3_succeeds_111 (by omega) (by omega) (by decide) rfl ?_
    refine x_zne M (tgt := 127) (by omega) dX3_succeeds_112 (by decide) (fun c_6 => ?_) (fun c_6 => ?_)
    · refine lv_iconst (v := (nI 0)) hx hb dX3_succeeds_127 (by decide) ?_
      have hR : grpRow ρ g = ρ := by clear hret hw hl M hK hZ hx hb; unfold grpRow cRow; rw [if_neg (by omega), if_pos (by omega)]; rw [if_neg (by first | assumption | omega)]
      exact hret _ _ _ (nI 0) _ _ dX3_succeeds_128 hw rfl rfl ⟨b2i_f (by clear hret hw hl M hK hZ hx hb; unfold grpOk cOk; rw [if_neg (by omega), if_pos (by omega)]; exact decide_eq_false (by omega)), γ, by rw [hR]⟩
    refine lv_aload_n hx hb dX3_succeeds_115 rfl (lv_at hl 3 rfl) ?_
    refine lv_iload_n hx hb dX3_succeeds_116 rfl (lv_at hl 2 rfl) ?_
    refine x_cVI (As := [.int (nI ((g / 1000) % 10))]) (k_X1_tryBid l G Y h ((g / 1000) % 10) ρ γ (hI) (by omega)) cw_X3_15 [0] 0 0 M hK hZ hw hl.1 rfl (by decide) rfl rfl rfl ⟨by decide, by decide⟩ ⟨Nat.zero_le _, Nat.zero_le _⟩ rfl rfl (Nat.le_of_ble_eq_true rfl) dX3_succeeds_117 (fun r sg h_7 H locs hw => ?_)
    obtain ⟨rfl, γa8, rfl⟩ := h_7
    have hw : xW G A s.heap [aucW Y h (dBid ρ ((g / 1000) % 10)) γa8] H locs := hw
    refine x_beq M (tgt := 127) dX3_succeeds_120 (by decide) (fun c_9 => ?_) (fun c_9 => ?_)
    · refine lv_iconst (v := (nI 0)) hx hb dX3_succeeds_127 (by decide) ?_
      have hR : grpRow ρ g = dBid ρ ((g / 1000) % 10) := by clear hret hw hl M hK hZ hx hb; unfold grpRow cRow; rw [if_neg (by omega), if_pos (by omega)]; rw [if_pos (by first | assumption | omega)]
      simp only [decide_eq_true_eq, decide_eq_false_iff_not] at c_9
      exact hret _ _ _ (nI 0) _ _ dX3_succeeds_128 hw rfl rfl ⟨b2i_f (by clear hret hw hl M hK hZ hx hb; unfold grpOk cOk; rw [if_neg (by omega), if_pos (by omega)]; exact decide_eq_false (by omega)), γa8, by rw [hR]⟩
    refine lv_iconst (v := (nI 1)) hx hb dX3_succeeds_123 (by decide) ?_
    refine lv_goto (tgt := 128) hx hb dX3_succeeds_124 (by decide) ?_
    have hR : grpRow ρ g = dBid ρ ((g / 1000) % 10) := by clear hret hw hl M hK hZ hx hb; unfold grpRow cRow; rw [if_neg (by omega), if_pos (by omega)]; rw [if_pos (by first | assumption | omega)]
    simp only [decide_eq_true_eq, decide_eq_false_iff_not] at c_9
    exact hret _ _ _ (nI 1) _ _ dX3_succeeds_128 hw rfl rfl ⟨b2i_t (by clear hret hw hl M hK hZ hx hb; unfold grpOk cOk; rw [if_neg (by omega), if_pos (by omega)]; exact decide_eq_true (by omega)), γa8, by rw [hR]⟩
  · refine x_topN (n := 3) (congrArg nI e_1) ?_
    refine lv_tableIn (tgt := 129) hx hb dX3_succeeds_28 (by decide) (by decide) rfl (by decide) ?_
    refine lv_iload_n hx hb dX3_succeeds_129 rfl (lv_at hl 4 rfl) ?_
    refine lv_sipush (v := (nI 10000)) hx hb dX3_succeeds_130 (by decide) ?_
    refine x_irem M (n := g % 10000) dX3_succeeds_133 (by omega) (by omega) (by decide) rfl ?_
    refine x_zne M (tgt := 148) (by omega) dX3_succeeds_134 (by decide) (fun c_10 => ?_) (fun c_10 => ?_)
    · refine lv_iconst (v := (nI 0)) hx hb dX3_succeeds_148 (by decide) ?_
      have hR : grpRow ρ g = ρ := by clear hret hw hl M hK hZ hx hb; unfold grpRow cRow; rw [if_neg (by omega), if_neg (by omega), if_pos (by omega)]; rw [if_neg (by first | assumption | omega)]
      exact hret _ _ _ (nI 0) _ _ dX3_succeeds_149 hw rfl rfl ⟨b2i_f (by clear hret hw hl M hK hZ hx hb; unfold grpOk cOk; rw [if_neg (by omega), if_neg (by omega), if_pos (by omega)]; exact decide_eq_false (by omega)), γ, by rw [hR]⟩
    refine lv_aload_n hx hb dX3_succeeds_137 rfl (lv_at hl 3 rfl) ?_
    refine x_cVI (As := []) (k_X1_tryClose l G Y h ρ γ (hI)) cw_X3_19 [0] 0 0 M hK hZ hw hl.1 rfl (by decide) rfl rfl rfl ⟨by decide, by decide⟩ ⟨Nat.zero_le _, Nat.zero_le _⟩ rfl rfl (Nat.le_of_ble_eq_true rfl) dX3_succeeds_138 (fun r sg h_11 H locs hw => ?_)
    obtain ⟨rfl, γa12, rfl⟩ := h_11
    have hw : xW G A s.heap [aucW Y h (dClose ρ) γa12] H locs := hw
    refine x_beq M (tgt := 148) dX3_succeeds_141 (by decide) (fun c_13 => ?_) (fun c_13 => ?_)
    · refine lv_iconst (v := (nI 0)) hx hb dX3_succeeds_148 (by decide) ?_
      have hR : grpRow ρ g = dClose ρ := by clear hret hw hl M hK hZ hx hb; unfold grpRow cRow; rw [if_neg (by omega), if_neg (by omega), if_pos (by omega)]; rw [if_pos (by first | assumption | omega)]
      simp only [decide_eq_true_eq, decide_eq_false_iff_not] at c_13
      exact hret _ _ _ (nI 0) _ _ dX3_succeeds_149 hw rfl rfl ⟨b2i_f (by clear hret hw hl M hK hZ hx hb; unfold grpOk cOk; rw [if_neg (by omega), if_neg (by omega), if_pos (by omega)]; exact decide_eq_false (by omega)), γa12, by rw [hR]⟩
    refine lv_iconst (v := (nI 1)) hx hb dX3_succeeds_144 (by decide) ?_
    refine lv_goto (tgt := 149) hx hb dX3_succeeds_145 (by decide) ?_
    have hR : grpRow ρ g = dClose ρ := by clear hret hw hl M hK hZ hx hb; unfold grpRow cRow; rw [if_neg (by omega), if_neg (by omega), if_pos (by omega)]; rw [if_pos (by first | assumption | omega)]
    simp only [decide_eq_true_eq, decide_eq_false_iff_not] at c_13
    exact hret _ _ _ (nI 1) _ _ dX3_succeeds_149 hw rfl rfl ⟨b2i_t (by clear hret hw hl M hK hZ hx hb; unfold grpOk cOk; rw [if_neg (by omega), if_neg (by omega), if_pos (by omega)]; exact decide_eq_true (by omega)), γa12, by rw [hR]⟩
  · refine x_topN (n := 4) (congrArg nI e_1) ?_
    refine lv_tableIn (tgt := 150) hx hb dX3_succeeds_28 (by decide) (by decide) rfl (by decide) ?_
    refine lv_aload_n hx hb dX3_succeeds_150 rfl (lv_at hl 3 rfl) ?_
    refine lv_iload_n hx hb dX3_succeeds_151 rfl (lv_at hl 2 rfl) ?_
    refine lv_iload_n hx hb dX3_succeeds_152 rfl (lv_at hl 1 rfl) ?_
    refine lv_bipush (v := (nI 10)) hx hb dX3_succeeds_153 (by decide) ?_
    refine lv_iload hx hb dX3_succeeds_155 (lv_at hl 0 rfl) ?_
    refine x_imul M (n := 100 * (g / 10 % 10) + 10 * (g % 10)) dX3_succeeds_157 (by omega) ?_
    refine x_topN (n := (10 * (10 * (g / 10 % 10) + g % 10))) (congrArg nI (by omega)) ?_
    refine x_cVI (As := [.int (nI ((g / 1000) % 10)), .int (nI ((g / 100) % 10)), .int (nI (10 * (10 * (g / 10 % 10) + g % 10)))]) (k_X1_tryValue l G Y h ((g / 1000) % 10) ((g / 100) % 10) (10 * (10 * (g / 10 % 10) + g % 10)) ρ γ (hI) (by omega) (by omega) (by omega)) cw_X3_23 [0] 0 0 M hK hZ hw hl.1 rfl (by decide) rfl rfl rfl ⟨by decide, by decide⟩ ⟨Nat.zero_le _, Nat.zero_le _⟩ rfl rfl (Nat.le_of_ble_eq_true rfl) dX3_succeeds_158 (fun r sg h_14 H locs hw => ?_)
    obtain ⟨rfl, γa15, rfl⟩ := h_14
    have hw : xW G A s.heap [aucW Y h (dVal ρ ((g / 1000) % 10) ((g / 100) % 10) (10 * (10 * (g / 10 % 10) + g % 10))) γa15] H locs := hw
    have hR : grpRow ρ g = dVal ρ ((g / 1000) % 10) ((g / 100) % 10) (10 * (10 * (g / 10 % 10) + g % 10)) := by clear hret hw hl M hK hZ hx hb; unfold grpRow cRow; rw [if_neg (by omega), if_neg (by omega), if_neg (by omega), if_pos (by omega)]
    exact hret _ _ _ (b2i (decide (tVal ρ ((g / 1000) % 10) ((g / 100) % 10) (10 * (10 * (g / 10 % 10) + g % 10)) = 0))) _ _ dX3_succeeds_161 hw (b2i_nar _) rfl ⟨congrArg b2i (by clear hret hw hl M hK hZ hx hb; unfold grpOk cOk; rw [if_neg (by omega), if_neg (by omega), if_neg (by omega), if_pos (by omega)]), γa15, by rw [hR]⟩
  · refine x_topN (n := 5) (congrArg nI e_1) ?_
    refine lv_tableIn (tgt := 162) hx hb dX3_succeeds_28 (by decide) (by decide) rfl (by decide) ?_
    refine lv_iload_n hx hb dX3_succeeds_162 rfl (lv_at hl 1 rfl) ?_
    refine x_zne M (tgt := 180) (by omega) dX3_succeeds_163 (by decide) (fun c_16 => ?_) (fun c_16 => ?_)
    · refine lv_iconst (v := (nI 0)) hx hb dX3_succeeds_180 (by decide) ?_
      have hR : grpRow ρ g = ρ := by clear hret hw hl M hK hZ hx hb; unfold grpRow cRow; rw [if_neg (by omega), if_neg (by omega), if_neg (by omega), if_neg (by omega), if_pos (by omega)]; rw [if_neg (by first | assumption | omega)]
      exact hret _ _ _ (nI 0) _ _ dX3_succeeds_181 hw rfl rfl ⟨b2i_f (by clear hret hw hl M hK hZ hx hb; unfold grpOk cOk; rw [if_neg (by omega), if_neg (by omega), if_neg (by omega), if_neg (by omega), if_pos (by omega)]; exact decide_eq_false (by omega)), γ, by rw [hR]⟩
    refine lv_aload_n hx hb dX3_succeeds_166 rfl (lv_at hl 3 rfl) ?_
    refine lv_iload_n hx hb dX3_succeeds_167 rfl (lv_at hl 2 rfl) ?_
    refine lv_iload hx hb dX3_succeeds_168 (lv_at hl 0 rfl) ?_
    refine x_cVI (As := [.int (nI ((g / 1000) % 10)), .int (nI (10 * (g / 10 % 10) + (g % 10)))]) (k_X1_trySet l G Y h ((g / 1000) % 10) (10 * (g / 10 % 10) + (g % 10)) ρ γ (hI) (by omega) (by omega)) cw_X3_26 [0] 0 0 M hK hZ hw hl.1 rfl (by decide) rfl rfl rfl ⟨by decide, by decide⟩ ⟨Nat.zero_le _, Nat.zero_le _⟩ rfl rfl (Nat.le_of_ble_eq_true rfl) dX3_succeeds_170 (fun r sg h_17 H locs hw => ?_)
    obtain ⟨rfl, γa18, rfl⟩ := h_17
    have hw : xW G A s.heap [aucW Y h (dSet ρ ((g / 1000) % 10) (10 * (g / 10 % 10) + (g % 10))) γa18] H locs := hw
    refine x_beq M (tgt := 180) dX3_succeeds_173 (by decide) (fun c_19 => ?_) (fun c_19 => ?_)
    · refine lv_iconst (v := (nI 0)) hx hb dX3_succeeds_180 (by decide) ?_
      have hR : grpRow ρ g = dSet ρ ((g / 1000) % 10) (10 * (g / 10 % 10) + (g % 10)) := by clear hret hw hl M hK hZ hx hb; unfold grpRow cRow; rw [if_neg (by omega), if_neg (by omega), if_neg (by omega), if_neg (by omega), if_pos (by omega)]; rw [if_pos (by first | assumption | omega)]
      simp only [decide_eq_true_eq, decide_eq_false_iff_not] at c_19
      exact hret _ _ _ (nI 0) _ _ dX3_succeeds_181 hw rfl rfl ⟨b2i_f (by clear hret hw hl M hK hZ hx hb; unfold grpOk cOk; rw [if_neg (by omega), if_neg (by omega), if_neg (by omega), if_neg (by omega), if_pos (by omega)]; exact decide_eq_false (by omega)), γa18, by rw [hR]⟩
    refine lv_iconst (v := (nI 1)) hx hb dX3_succeeds_176 (by decide) ?_
    refine lv_goto (tgt := 181) hx hb dX3_succeeds_177 (by decide) ?_
    have hR : grpRow ρ g = dSet ρ ((g / 1000) % 10) (10 * (g / 10 % 10) + (g % 10)) := by clear hret hw hl M hK hZ hx hb; unfold grpRow cRow; rw [if_neg (by omega), if_neg (by omega), if_neg (by omega), if_neg (by omega), if_pos (by omega)]; rw [if_pos (by first | assumption | omega)]
    simp only [decide_eq_true_eq, decide_eq_false_iff_not] at c_19
    exact hret _ _ _ (nI 1) _ _ dX3_succeeds_181 hw rfl rfl ⟨b2i_t (by clear hret hw hl M hK hZ hx hb; unfold grpOk cOk; rw [if_neg (by omega), if_neg (by omega), if_neg (by omega), if_neg (by omega), if_pos (by omega)]; exact decide_eq_true (by omega)), γa18, by rw [hR]⟩
  · refine x_topN (n := 6) (congrArg nI e_1) ?_
    refine lv_tableIn (tgt := 182) hx hb dX3_succeeds_28 (by decide) (by decide) rfl (by decide) ?_
    refine lv_iload hx hb dX3_succeeds_182 (lv_at hl 0 rfl) ?_
    refine x_zne M (tgt := 200) (by omega) dX3_succeeds_184 (by decide) (fun c_20 => ?_) (fun c_20 => ?_)
    · refine lv_iconst (v := (nI 0)) hx hb dX3_succeeds_200 (by decide) ?_
      have hR : grpRow ρ g = ρ := by clear hret hw hl M hK hZ hx hb; unfold grpRow cRow; rw [if_neg (by omega), if_neg (by omega), if_neg (by omega), if_neg (by omega), if_neg (by omega), if_pos (by omega)]; rw [if_neg (by first | assumption | omega)]
      exact hret _ _ _ (nI 0) _ _ dX3_succeeds_201 hw rfl rfl ⟨b2i_f (by clear hret hw hl M hK hZ hx hb; unfold grpOk cOk; rw [if_neg (by omega), if_neg (by omega), if_neg (by omega), if_neg (by omega), if_neg (by omega), if_pos (by omega)]; exact decide_eq_false (by omega)), γ, by rw [hR]⟩
    have hq6 : g / 10 % 10 = 0 := by omega
    have hq7 : g % 10 = 0 := by omega
    have hq8 : (g / 10 % 10) + g % 10 = 0 := by rw [hq6, hq7]
    refine lv_aload_n hx hb dX3_succeeds_187 rfl (lv_at hl 3 rfl) ?_
    refine lv_iload_n hx hb dX3_succeeds_188 rfl (lv_at hl 2 rfl) ?_
    refine lv_iload_n hx hb dX3_succeeds_189 rfl (lv_at hl 1 rfl) ?_
    refine x_cVI (As := [.int (nI ((g / 1000) % 10)), .int (nI ((g / 100) % 10))]) (k_X1_tryDrop l G Y h ((g / 1000) % 10) ((g / 100) % 10) ρ γ (hI) (by omega) (by omega)) cw_X3_30 [0] 0 0 M hK hZ hw hl.1 rfl (by decide) rfl rfl rfl ⟨by decide, by decide⟩ ⟨Nat.zero_le _, Nat.zero_le _⟩ rfl rfl (Nat.le_of_ble_eq_true rfl) dX3_succeeds_190 (fun r sg h_21 H locs hw => ?_)
    obtain ⟨rfl, γa22, rfl⟩ := h_21
    have hw : xW G A s.heap [aucW Y h (dDrop ρ ((g / 1000) % 10) ((g / 100) % 10)) γa22] H locs := hw
    refine x_beq M (tgt := 200) dX3_succeeds_193 (by decide) (fun c_23 => ?_) (fun c_23 => ?_)
    · refine lv_iconst (v := (nI 0)) hx hb dX3_succeeds_200 (by decide) ?_
      have hR : grpRow ρ g = dDrop ρ ((g / 1000) % 10) ((g / 100) % 10) := by clear hret hw hl M hK hZ hx hb; unfold grpRow cRow; rw [if_neg (by omega), if_neg (by omega), if_neg (by omega), if_neg (by omega), if_neg (by omega), if_pos (by omega)]; rw [if_pos (by first | assumption | omega)]
      simp only [decide_eq_true_eq, decide_eq_false_iff_not] at c_23
      exact hret _ _ _ (nI 0) _ _ dX3_succeeds_201 hw rfl rfl ⟨b2i_f (by clear hret hw hl M hK hZ hx hb; unfold grpOk cOk; rw [if_neg (by omega), if_neg (by omega), if_neg (by omega), if_neg (by omega), if_neg (by omega), if_pos (by omega)]; exact decide_eq_false (by omega)), γa22, by rw [hR]⟩
    refine lv_iconst (v := (nI 1)) hx hb dX3_succeeds_196 (by decide) ?_
    refine lv_goto (tgt := 201) hx hb dX3_succeeds_197 (by decide) ?_
    have hR : grpRow ρ g = dDrop ρ ((g / 1000) % 10) ((g / 100) % 10) := by clear hret hw hl M hK hZ hx hb; unfold grpRow cRow; rw [if_neg (by omega), if_neg (by omega), if_neg (by omega), if_neg (by omega), if_neg (by omega), if_pos (by omega)]; rw [if_pos (by first | assumption | omega)]
    simp only [decide_eq_true_eq, decide_eq_false_iff_not] at c_23
    exact hret _ _ _ (nI 1) _ _ dX3_succeeds_201 hw rfl rfl ⟨b2i_t (by clear hret hw hl M hK hZ hx hb; unfold grpOk cOk; rw [if_neg (by omega), if_neg (by omega), if_neg (by omega), if_neg (by omega), if_neg (by omega), if_pos (by omega)]; exact decide_eq_true (by omega)), γa22, by rw [hR]⟩
  · refine x_topN (n := 7) (congrArg nI e_1) ?_
    refine lv_tableIn (tgt := 202) hx hb dX3_succeeds_28 (by decide) (by decide) rfl (by decide) ?_
    refine lv_iload_n hx hb dX3_succeeds_202 rfl (lv_at hl 2 rfl) ?_
    refine x_cNI (As := [.int (nI ((g / 1000) % 10))]) (k_X5_noKind l G Y (nI ((g / 1000) % 10))) cw_X3_33 [] M hK hZ hw hl.1 rfl (by decide) ⟨by decide, by decide⟩ ⟨Nat.zero_le _, Nat.zero_le _⟩ rfl rfl (Nat.le_of_ble_eq_true rfl) dX3_succeeds_203 (fun r sg h_24 H locs hw => ?_)
    obtain ⟨rfl, rfl⟩ := h_24
    have hw : xW G A s.heap [aucW Y h ρ γ] H locs := hw
    refine x_bne M (tgt := 227) dX3_succeeds_206 (by decide) (fun c_25 => ?_) (fun c_25 => ?_)
    · have hz := nzT c_25 (by omega)
      refine lv_iconst (v := (nI 0)) hx hb dX3_succeeds_227 (by decide) ?_
      have hR : grpRow ρ g = ρ := by clear hret hw hl M hK hZ hx hb; unfold grpRow cRow; rw [if_neg (by omega), if_neg (by omega), if_neg (by omega), if_neg (by omega), if_neg (by omega), if_neg (by omega)]
      exact hret _ _ _ (nI 0) _ _ dX3_succeeds_228 hw rfl rfl ⟨b2i_f (by clear hret hw hl M hK hZ hx hb; unfold grpOk cOk; rw [if_neg (by omega), if_neg (by omega), if_neg (by omega), if_neg (by omega), if_neg (by omega), if_neg (by omega), if_pos (by omega)]; exact decide_eq_false (by omega)), γ, by rw [hR]⟩
    have hz := nzF c_25 (by omega)
    refine lv_aload_n hx hb dX3_succeeds_209 rfl (lv_at hl 3 rfl) ?_
    refine x_get M hK hw 0 0 rfl rfl ff_X3_36 rfl dX3_succeeds_210 ?_
    refine lv_iload_n hx hb dX3_succeeds_213 rfl (lv_at hl 2 rfl) ?_
    refine x_iald M hK hw 0 3 rfl rfl (by omega) (by decide) dX3_succeeds_214 ?_
    refine x_topN (n := ρ (11 + ((g / 1000) % 10))) (congrArg (fun q => nI (ρ q)) (by omega)) ?_
    have q_26 : 1 ≤ ρ (11 + ((g / 1000) % 10)) := (hI.pri (k := ((g / 1000) % 10)) (by omega) rfl).1
    have q_27 : ρ (11 + ((g / 1000) % 10)) ≤ 99999 := (hI.pri (k := ((g / 1000) % 10)) (by omega) rfl).2
    refine lv_iload_n hx hb dX3_succeeds_215 rfl (lv_at hl 4 rfl) ?_
    refine lv_sipush (v := (nI 1000)) hx hb dX3_succeeds_216 (by decide) ?_
    refine x_irem M (n := g % 1000) dX3_succeeds_219 (by omega) (by omega) (by decide) rfl ?_
    refine x_clt M (tgt := 227) (by omega) (by omega) dX3_succeeds_220 (by decide) (fun c_28 => ?_) (fun c_28 => ?_)
    · refine lv_iconst (v := (nI 0)) hx hb dX3_succeeds_227 (by decide) ?_
      have hR : grpRow ρ g = ρ := by clear hret hw hl M hK hZ hx hb; unfold grpRow cRow; rw [if_neg (by omega), if_neg (by omega), if_neg (by omega), if_neg (by omega), if_neg (by omega), if_neg (by omega)]
      exact hret _ _ _ (nI 0) _ _ dX3_succeeds_228 hw rfl rfl ⟨b2i_f (by clear hret hw hl M hK hZ hx hb; unfold grpOk cOk; rw [if_neg (by omega), if_neg (by omega), if_neg (by omega), if_neg (by omega), if_neg (by omega), if_neg (by omega), if_pos (by omega)]; exact decide_eq_false (by omega)), γ, by rw [hR]⟩
    refine lv_iconst (v := (nI 1)) hx hb dX3_succeeds_223 (by decide) ?_
    refine lv_goto (tgt := 228) hx hb dX3_succeeds_224 (by decide) ?_
    have hR : grpRow ρ g = ρ := by clear hret hw hl M hK hZ hx hb; unfold grpRow cRow; rw [if_neg (by omega), if_neg (by omega), if_neg (by omega), if_neg (by omega), if_neg (by omega), if_neg (by omega)]
    exact hret _ _ _ (nI 1) _ _ dX3_succeeds_228 hw rfl rfl ⟨b2i_t (by clear hret hw hl M hK hZ hx hb; unfold grpOk cOk; rw [if_neg (by omega), if_neg (by omega), if_neg (by omega), if_neg (by omega), if_neg (by omega), if_neg (by omega), if_pos (by omega)]; exact decide_eq_true (by omega)), γ, by rw [hR]⟩
  · refine x_topN (n := 8) (congrArg nI e_1) ?_
    refine lv_tableIn (tgt := 229) hx hb dX3_succeeds_28 (by decide) (by decide) rfl (by decide) ?_
    refine lv_iload_n hx hb dX3_succeeds_229 rfl (lv_at hl 1 rfl) ?_
    refine x_zne M (tgt := 256) (by omega) dX3_succeeds_230 (by decide) (fun c_29 => ?_) (fun c_29 => ?_)
    · refine lv_iconst (v := (nI 0)) hx hb dX3_succeeds_256 (by decide) ?_
      have hR : grpRow ρ g = ρ := by clear hret hw hl M hK hZ hx hb; unfold grpRow cRow; rw [if_neg (by omega), if_neg (by omega), if_neg (by omega), if_neg (by omega), if_neg (by omega), if_neg (by omega)]
      exact hret _ _ _ (nI 0) _ _ dX3_succeeds_257 hw rfl rfl ⟨b2i_f (by clear hret hw hl M hK hZ hx hb; unfold grpOk cOk; rw [if_neg (by omega), if_neg (by omega), if_neg (by omega), if_neg (by omega), if_neg (by omega), if_neg (by omega), if_neg (by omega), if_pos (by omega)]; exact decide_eq_false (by omega)), γ, by rw [hR]⟩
    refine lv_aload_n hx hb dX3_succeeds_233 rfl (lv_at hl 3 rfl) ?_
    refine lv_iload_n hx hb dX3_succeeds_234 rfl (lv_at hl 2 rfl) ?_
    refine x_cVI (As := [.int (nI ((g / 1000) % 10))]) (k_X1_noBidder l G Y h ρ γ (nI ((g / 1000) % 10)) (hI)) cw_X3_40 [0] 0 0 M hK hZ hw hl.1 rfl (by decide) rfl rfl rfl ⟨by decide, by decide⟩ ⟨Nat.zero_le _, Nat.zero_le _⟩ rfl rfl (Nat.le_of_ble_eq_true rfl) dX3_succeeds_235 (fun r sg h_30 H locs hw => ?_)
    obtain ⟨rfl, rfl⟩ := h_30
    have hw : xW G A s.heap [aucW Y h ρ γ] H locs := hw
    refine x_bne M (tgt := 256) dX3_succeeds_238 (by decide) (fun c_31 => ?_) (fun c_31 => ?_)
    · have hz := nzT c_31 (by omega)
      refine lv_iconst (v := (nI 0)) hx hb dX3_succeeds_256 (by decide) ?_
      have hR : grpRow ρ g = ρ := by clear hret hw hl M hK hZ hx hb; unfold grpRow cRow; rw [if_neg (by omega), if_neg (by omega), if_neg (by omega), if_neg (by omega), if_neg (by omega), if_neg (by omega)]
      exact hret _ _ _ (nI 0) _ _ dX3_succeeds_257 hw rfl rfl ⟨b2i_f (by clear hret hw hl M hK hZ hx hb; unfold grpOk cOk; rw [if_neg (by omega), if_neg (by omega), if_neg (by omega), if_neg (by omega), if_neg (by omega), if_neg (by omega), if_neg (by omega), if_pos (by omega)]; exact decide_eq_false (by omega)), γ, by rw [hR]⟩
    have hz := nzF c_31 (by omega)
    refine lv_aload_n hx hb dX3_succeeds_241 rfl (lv_at hl 3 rfl) ?_
    refine x_get M hK hw 0 0 rfl rfl ff_X3_43 rfl dX3_succeeds_242 ?_
    refine lv_iload_n hx hb dX3_succeeds_245 rfl (lv_at hl 2 rfl) ?_
    refine x_iald M hK hw 0 4 rfl rfl (by omega) (by decide) dX3_succeeds_246 ?_
    refine x_topN (n := ρ (14 + 21 * ((g / 1000) % 10))) (congrArg nI (rgt_at (j := ((g / 1000) % 10)) (by omega) rfl (by omega))) ?_
    have q_32 : ρ (14 + 21 * ((g / 1000) % 10)) ≤ 99 := hI.rgt (j := ((g / 1000) % 10)) (by omega) (by omega)
    refine lv_iload hx hb dX3_succeeds_247 (lv_at hl 0 rfl) ?_
    refine x_clt M (tgt := 256) (by omega) (by omega) dX3_succeeds_249 (by decide) (fun c_33 => ?_) (fun c_33 => ?_)
    · refine lv_iconst (v := (nI 0)) hx hb dX3_succeeds_256 (by decide) ?_
      have hR : grpRow ρ g = ρ := by clear hret hw hl M hK hZ hx hb; unfold grpRow cRow; rw [if_neg (by omega), if_neg (by omega), if_neg (by omega), if_neg (by omega), if_neg (by omega), if_neg (by omega)]
      exact hret _ _ _ (nI 0) _ _ dX3_succeeds_257 hw rfl rfl ⟨b2i_f (by clear hret hw hl M hK hZ hx hb; unfold grpOk cOk; rw [if_neg (by omega), if_neg (by omega), if_neg (by omega), if_neg (by omega), if_neg (by omega), if_neg (by omega), if_neg (by omega), if_pos (by omega)]; exact decide_eq_false (by omega)), γ, by rw [hR]⟩
    refine lv_iconst (v := (nI 1)) hx hb dX3_succeeds_252 (by decide) ?_
    refine lv_goto (tgt := 257) hx hb dX3_succeeds_253 (by decide) ?_
    have hR : grpRow ρ g = ρ := by clear hret hw hl M hK hZ hx hb; unfold grpRow cRow; rw [if_neg (by omega), if_neg (by omega), if_neg (by omega), if_neg (by omega), if_neg (by omega), if_neg (by omega)]
    exact hret _ _ _ (nI 1) _ _ dX3_succeeds_257 hw rfl rfl ⟨b2i_t (by clear hret hw hl M hK hZ hx hb; unfold grpOk cOk; rw [if_neg (by omega), if_neg (by omega), if_neg (by omega), if_neg (by omega), if_neg (by omega), if_neg (by omega), if_neg (by omega), if_pos (by omega)]; exact decide_eq_true (by omega)), γ, by rw [hR]⟩
  · refine x_topN (n := 9) (congrArg nI e_1) ?_
    refine lv_tableIn (tgt := 258) hx hb dX3_succeeds_28 (by decide) (by decide) rfl (by decide) ?_
    refine lv_iload_n hx hb dX3_succeeds_258 rfl (lv_at hl 4 rfl) ?_
    refine lv_sipush (v := (nI 10000)) hx hb dX3_succeeds_259 (by decide) ?_
    refine x_irem M (n := g % 10000) dX3_succeeds_262 (by omega) (by omega) (by decide) rfl ?_
    refine x_zne M (tgt := 277) (by omega) dX3_succeeds_263 (by decide) (fun c_34 => ?_) (fun c_34 => ?_)
    · refine lv_iconst (v := (nI 0)) hx hb dX3_succeeds_277 (by decide) ?_
      have hR : grpRow ρ g = ρ := by clear hret hw hl M hK hZ hx hb; unfold grpRow cRow; rw [if_neg (by omega), if_neg (by omega), if_neg (by omega), if_neg (by omega), if_neg (by omega), if_neg (by omega)]
      exact hret _ _ _ (nI 0) _ _ dX3_succeeds_278 hw rfl rfl ⟨b2i_f (by clear hret hw hl M hK hZ hx hb; unfold grpOk cOk; rw [if_neg (by omega), if_neg (by omega), if_neg (by omega), if_neg (by omega), if_neg (by omega), if_neg (by omega), if_neg (by omega), if_neg (by omega), if_pos (by omega)]; exact decide_eq_false (by omega)), γ, by rw [hR]⟩
    refine lv_aload_n hx hb dX3_succeeds_266 rfl (lv_at hl 3 rfl) ?_
    refine x_get M hK hw 0 0 rfl rfl ff_X3_46 rfl dX3_succeeds_267 ?_
    refine x_zeq M (tgt := 277) (by omega) dX3_succeeds_270 (by decide) (fun c_35 => ?_) (fun c_35 => ?_)
    · refine lv_iconst (v := (nI 0)) hx hb dX3_succeeds_277 (by decide) ?_
      have hR : grpRow ρ g = ρ := by clear hret hw hl M hK hZ hx hb; unfold grpRow cRow; rw [if_neg (by omega), if_neg (by omega), if_neg (by omega), if_neg (by omega), if_neg (by omega), if_neg (by omega)]
      exact hret _ _ _ (nI 0) _ _ dX3_succeeds_278 hw rfl rfl ⟨b2i_f (by clear hret hw hl M hK hZ hx hb; unfold grpOk cOk; rw [if_neg (by omega), if_neg (by omega), if_neg (by omega), if_neg (by omega), if_neg (by omega), if_neg (by omega), if_neg (by omega), if_neg (by omega), if_pos (by omega)]; exact decide_eq_false (by omega)), γ, by rw [hR]⟩
    refine lv_iconst (v := (nI 1)) hx hb dX3_succeeds_273 (by decide) ?_
    refine lv_goto (tgt := 278) hx hb dX3_succeeds_274 (by decide) ?_
    have hR : grpRow ρ g = ρ := by clear hret hw hl M hK hZ hx hb; unfold grpRow cRow; rw [if_neg (by omega), if_neg (by omega), if_neg (by omega), if_neg (by omega), if_neg (by omega), if_neg (by omega)]
    exact hret _ _ _ (nI 1) _ _ dX3_succeeds_278 hw rfl rfl ⟨b2i_t (by clear hret hw hl M hK hZ hx hb; unfold grpOk cOk; rw [if_neg (by omega), if_neg (by omega), if_neg (by omega), if_neg (by omega), if_neg (by omega), if_neg (by omega), if_neg (by omega), if_neg (by omega), if_pos (by omega)]; exact decide_eq_true (by omega)), γ, by rw [hR]⟩
