set_option maxHeartbeats 4000000 in
set_option maxRecDepth 20000 in
theorem k_X5_cell (l : Launch) (G : va_G) (Y : Nat → Nat) (a b : Nat)  : CtI l yX5_cell cX5_cell 2 .int 0 0 [.int (nI a), .int (nI b)] [] (fun r sg => r = nI (3 * a + b) ∧ sg = []) G Y := by
  refine x_ofI (by decide) (Nat.le_of_ble_eq_true rfl) (fun p e s m args below meth c A ls Q M hK hZ hw hl hret => ?_)
  obtain ⟨hx, hb, -⟩ := id M
  have hl : lv_has ls 2 [(0, .int (nI a)), (1, .int (nI b))] := hl
  refine lv_iload_n hx hb dX5_cell_0 rfl (lv_at hl 0 rfl) ?_
  refine lv_iconst (v := (nI 3)) hx hb dX5_cell_1 (by decide) ?_
  refine x_imul M (n := 3 * a) dX5_cell_2 (by omega) ?_
  refine lv_iload_n hx hb dX5_cell_3 rfl (lv_at hl 1 rfl) ?_
  refine x_iadd M (n := 3 * a + b) dX5_cell_4 rfl ?_
  exact hret _ _ _ (nI (3 * a + b)) _ _ dX5_cell_5 hw rfl rfl ⟨congrArg nI (by omega), rfl⟩
set_option maxHeartbeats 4000000 in
set_option maxRecDepth 20000 in
theorem k_X1_packCell (l : Launch) (G : va_G) (Y : Nat → Nat) (a i : Nat) (hi : 0 < i) : CtI l yX1_packCell cX1_packCell 2 .int 0 0 [.int (nI a), .int (nI i)] [] (fun r sg => r = nI (3 * a + (i - 1)) ∧ sg = []) G Y := by
  refine x_ofI (by decide) (Nat.le_of_ble_eq_true rfl) (fun p e s m args below meth c A ls Q M hK hZ hw hl hret => ?_)
  obtain ⟨hx, hb, -⟩ := id M
  have hl : lv_has ls 2 [(0, .int (nI a)), (1, .int (nI i))] := hl
  refine lv_iload_n hx hb dX1_packCell_0 rfl (lv_at hl 0 rfl) ?_
  refine lv_iconst (v := (nI 3)) hx hb dX1_packCell_1 (by decide) ?_
  refine x_imul M (n := 3 * a) dX1_packCell_2 (by omega) ?_
  refine lv_iload_n hx hb dX1_packCell_3 rfl (lv_at hl 1 rfl) ?_
  refine x_iadd M (n := 3 * a + i) dX1_packCell_4 rfl ?_
  refine lv_iconst (v := (nI 1)) hx hb dX1_packCell_5 (by decide) ?_
  refine x_isub M (n := 3 * a + (i - 1)) dX1_packCell_6 (by omega) ?_
  exact hret _ _ _ (nI (3 * a + (i - 1))) _ _ dX1_packCell_7 hw rfl rfl ⟨rfl, rfl⟩
set_option maxHeartbeats 4000000 in
set_option maxRecDepth 20000 in
theorem k_X5_quotient (l : Launch) (G : va_G) (Y : Nat → Nat) (a b : Nat) (g0 : 0 < b) (g1 : b < 2 ^ 31) (g2 : a < 2 ^ 31) : CtI l yX5_quotient cX5_quotient 2 .int 0 0 [.int (nI a), .int (nI b)] [] (fun r sg => r = nI (a / b) ∧ sg = []) G Y := by
  refine x_ofI (by decide) (Nat.le_of_ble_eq_true rfl) (fun p e s m args below meth c A ls Q M hK hZ hw hl hret => ?_)
  obtain ⟨hx, hb, -⟩ := id M
  have hl : lv_has ls 2 [(0, .int (nI a)), (1, .int (nI b))] := hl
  refine lv_iload_n hx hb dX5_quotient_0 rfl (lv_at hl 1 rfl) ?_
  refine x_zle M (tgt := 10) (by omega) dX5_quotient_1 (by decide) (fun c_1 => absurd c_1 (by omega)) (fun c_1 => ?_)
  refine lv_iload_n hx hb dX5_quotient_4 rfl (lv_at hl 0 rfl) ?_
  refine lv_iload_n hx hb dX5_quotient_5 rfl (lv_at hl 1 rfl) ?_
  refine x_idiv M (n := a / b) dX5_quotient_6 (by omega) (by omega) (by omega) rfl ?_
  have q_2 : a / b ≤ a := Nat.div_le_self _ _
  refine lv_goto (tgt := 11) hx hb dX5_quotient_7 (by decide) ?_
  exact hret _ _ _ (nI (a / b)) _ _ dX5_quotient_11 hw rfl rfl ⟨rfl, rfl⟩
set_option maxHeartbeats 4000000 in
set_option maxRecDepth 20000 in
theorem k_X5_outside (l : Launch) (G : va_G) (Y : Nat → Nat) (x a b : Int32)  : CtI l yX5_outside cX5_outside 3 .boolean 0 0 [.int x, .int a, .int b] [] (fun r sg => r = b2i (!inZ x.toInt a.toInt b.toInt) ∧ sg = []) G Y := by
  refine x_ofI (by decide) (Nat.le_of_ble_eq_true rfl) (fun p e s m args below meth c A ls Q M hK hZ hw hl hret => ?_)
  obtain ⟨hx, hb, -⟩ := id M
  have hl : lv_has ls 3 [(0, .int x), (1, .int a), (2, .int b)] := hl
  refine lv_iload_n hx hb dX5_outside_0 rfl (lv_at hl 0 rfl) ?_
  refine lv_iload_n hx hb dX5_outside_1 rfl (lv_at hl 1 rfl) ?_
  refine lv_icmp_lt (tgt := 10) hx hb dX5_outside_2 (by decide) (fun c_1 => ?_) (fun c_1 => ?_)
  · refine lv_iconst (v := (nI 1)) hx hb dX5_outside_10 (by decide) ?_
    refine lv_goto (tgt := 15) hx hb dX5_outside_11 (by decide) ?_
    simp only [Int32.lt_iff_toInt_lt, Int32.le_iff_toInt_le] at c_1
    exact hret _ _ _ (nI 1) _ _ dX5_outside_15 hw rfl rfl ⟨b2i_t (by simp only [inZ, Bool.not_eq_true', Bool.not_eq_false', Bool.or_eq_true, Bool.and_eq_true, decide_eq_true_eq, decide_eq_false_iff_not]; omega), rfl⟩
  refine lv_iload_n hx hb dX5_outside_5 rfl (lv_at hl 0 rfl) ?_
  refine lv_iload_n hx hb dX5_outside_6 rfl (lv_at hl 2 rfl) ?_
  refine lv_icmp_le (tgt := 14) hx hb dX5_outside_7 (by decide) (fun c_2 => ?_) (fun c_2 => ?_)
  · refine lv_iconst (v := (nI 0)) hx hb dX5_outside_14 (by decide) ?_
    simp only [Int32.lt_iff_toInt_lt, Int32.le_iff_toInt_le] at c_1 c_2
    exact hret _ _ _ (nI 0) _ _ dX5_outside_15 hw rfl rfl ⟨b2i_f (by simp only [inZ, Bool.not_eq_true', Bool.not_eq_false', Bool.or_eq_true, Bool.and_eq_true, decide_eq_true_eq, decide_eq_false_iff_not]; omega), rfl⟩
  refine lv_iconst (v := (nI 1)) hx hb dX5_outside_10 (by decide) ?_
  refine lv_goto (tgt := 15) hx hb dX5_outside_11 (by decide) ?_
  simp only [Int32.lt_iff_toInt_lt, Int32.le_iff_toInt_le] at c_1 c_2
  exact hret _ _ _ (nI 1) _ _ dX5_outside_15 hw rfl rfl ⟨b2i_t (by simp only [inZ, Bool.not_eq_true', Bool.not_eq_false', Bool.or_eq_true, Bool.and_eq_true, decide_eq_true_eq, decide_eq_false_iff_not]; omega), rfl⟩
set_option maxHeartbeats 4000000 in
set_option maxRecDepth 20000 in
theorem k_X5_noKind (l : Launch) (G : va_G) (Y : Nat → Nat) (x : Int32)  : CtI l yX5_noKind cX5_noKind 1 .boolean 1 22 [.int x] [] (fun r sg => r = b2i (!inZ x.toInt 0 2) ∧ sg = []) G Y := by
  refine x_ofI (by decide) (Nat.le_of_ble_eq_true rfl) (fun p e s m args below meth c A ls Q M hK hZ hw hl hret => ?_)
  obtain ⟨hx, hb, -⟩ := id M
  have hl : lv_has ls 1 [(0, .int x)] := hl
  refine lv_iload_n hx hb dX5_noKind_0 rfl (lv_at hl 0 rfl) ?_
  refine lv_iconst (v := (nI 0)) hx hb dX5_noKind_1 (by decide) ?_
  refine lv_iconst (v := (nI 2)) hx hb dX5_noKind_2 (by decide) ?_
  refine x_cSI (As := [.int x, .int (nI 0), .int (nI 2)]) (k_X5_outside l G Y x (nI 0) (nI 2)) cw_X5_48 [] M hK hZ hw hl.1 rfl (by decide) ⟨by decide, by decide⟩ ⟨Nat.zero_le _, Nat.zero_le _⟩ rfl rfl (Nat.le_of_ble_eq_true rfl) dX5_noKind_3 (fun r sg h_1 H locs hw => ?_)
  obtain ⟨rfl, rfl⟩ := h_1
  have hw : xW G A s.heap [] H locs := hw
  refine x_topI (y := b2i (!inZ x.toInt 0 2)) rfl ?_
  exact hret _ _ _ (b2i (!inZ x.toInt 0 2)) _ _ dX5_noKind_6 hw (b2i_nar _) rfl ⟨rfl, rfl⟩
set_option maxHeartbeats 4000000 in
set_option maxRecDepth 20000 in
theorem k_X1_noBidder (l : Launch) (G : va_G) (Y : Nat → Nat) (h : Nat) (ρ : Nat → Nat) (γ : Nat → Nat → Nat) (x : Int32) (hI : Inv ρ) : CtI l yX1_noBidder cX1_noBidder 2 .boolean 1 22 [.ref h, .int x] [aucW Y h ρ γ] (fun r sg => r = b2i (!inZ x.toInt 0 ((ρ 4 : Int) - 1)) ∧ sg = [aucW Y h ρ γ]) G Y := by
  refine x_ofI (by decide) (Nat.le_of_ble_eq_true rfl) (fun p e s m args below meth c A ls Q M hK hZ hw hl hret => ?_)
  obtain ⟨hx, hb, -⟩ := id M
  have hl : lv_has ls 2 [(0, .ref h), (1, .int x)] := hl
  have := hI.n6
  have := hI.over
  have := hI.keep
  have := hI.stepp
  refine lv_iload_n hx hb dX1_noBidder_0 rfl (lv_at hl 1 rfl) ?_
  refine lv_iconst (v := (nI 0)) hx hb dX1_noBidder_1 (by decide) ?_
  refine lv_aload_n hx hb dX1_noBidder_2 rfl (lv_at hl 0 rfl) ?_
  refine x_get M hK hw 0 0 rfl rfl ff_X1_45 rfl dX1_noBidder_3 ?_
  refine lv_iconst (v := (nI 1)) hx hb dX1_noBidder_6 (by decide) ?_
  refine lv_isub hx hb dX1_noBidder_7 ?_
  refine x_cNI (As := [.int x, .int (nI 0), .int ((nI (ρ 4)) - (nI 1))]) (k_X5_outside l G Y x (nI 0) ((nI (ρ 4)) - (nI 1))) cw_X1_68 [] M hK hZ hw hl.1 rfl (by decide) ⟨by decide, by decide⟩ ⟨Nat.zero_le _, Nat.zero_le _⟩ rfl rfl (Nat.le_of_ble_eq_true rfl) dX1_noBidder_8 (fun r sg h_1 H locs hw => ?_)
  obtain ⟨rfl, rfl⟩ := h_1
  have hw : xW G A s.heap [aucW Y h ρ γ] H locs := hw
  refine x_topI (y := b2i (!inZ x.toInt 0 ((ρ 4 : Int) - 1))) (by rw [pk_sub_toInt (by omega) (by decide)]; rfl) ?_
  exact hret _ _ _ (b2i (!inZ x.toInt 0 ((ρ 4 : Int) - 1))) _ _ dX1_noBidder_11 hw (b2i_nar _) rfl ⟨rfl, rfl⟩
set_option maxHeartbeats 4000000 in
set_option maxRecDepth 20000 in
theorem k_X1_settingOf (l : Launch) (G : va_G) (Y : Nat → Nat) (h : Nat) (ρ : Nat → Nat) (γ : Nat → Nat → Nat) (x : Int32) (hI : Inv ρ) : CtI l yX1_settingOf cX1_settingOf 2 .int 0 0 [.ref h, .int x] [aucW Y h ρ γ] (fun r sg => r = nI (setOf ρ x.toInt) ∧ sg = [aucW Y h ρ γ]) G Y := by
  refine x_ofI (by decide) (Nat.le_of_ble_eq_true rfl) (fun p e s m args below meth c A ls Q M hK hZ hw hl hret => ?_)
  obtain ⟨hx, hb, -⟩ := id M
  have hl : lv_has ls 2 [(0, .ref h), (1, .int x)] := hl
  have := hI.n6
  have := hI.over
  have := hI.keep
  have := hI.stepp
  refine lv_iload_n hx hb dX1_settingOf_0 rfl (lv_at hl 1 rfl) ?_
  refine lv_if_ne (tgt := 11) hx hb dX1_settingOf_1 (by decide) (fun c_1 => ?_) (fun c_1 => ?_)
  · refine lv_aload_n hx hb dX1_settingOf_11 rfl (lv_at hl 0 rfl) ?_
    refine x_get M hK hw 0 0 rfl rfl ff_X1_59 rfl dX1_settingOf_12 ?_
    exact hret _ _ _ (nI (ρ 3)) _ _ dX1_settingOf_15 hw rfl rfl ⟨congrArg nI (by simp only [setOf]; split <;> first | rfl | (exfalso; simp only [← Int32.toInt_inj, Int32.toInt_zero] at c_1; omega)), rfl⟩
  refine lv_aload_n hx hb dX1_settingOf_4 rfl (lv_at hl 0 rfl) ?_
  refine x_get M hK hw 0 0 rfl rfl ff_X1_56 rfl dX1_settingOf_5 ?_
  refine lv_goto (tgt := 15) hx hb dX1_settingOf_8 (by decide) ?_
  exact hret _ _ _ (nI (ρ 2)) _ _ dX1_settingOf_15 hw rfl rfl ⟨congrArg nI (by simp only [setOf]; split <;> first | rfl | (exfalso; simp only [← Int32.toInt_inj, Int32.toInt_zero] at c_1; omega)), rfl⟩
set_option maxHeartbeats 4000000 in
set_option maxRecDepth 20000 in
theorem k_X1_askedOf (l : Launch) (G : va_G) (Y : Nat → Nat) (h k : Nat) (ρ : Nat → Nat) (γ : Nat → Nat → Nat) (hI : Inv ρ) (hk : k < 3) : CtI l yX1_askedOf cX1_askedOf 4 .int 1 21 [.ref h, .int (nI k)] [aucW Y h ρ γ] (fun r sg => r = nI (askedOf ρ k) ∧ sg = [aucW Y h ρ γ]) G Y := by
  refine x_ofI (by decide) (Nat.le_of_ble_eq_true rfl) (fun p e s m args below meth c A ls Q M hK hZ hw hl hret => ?_)
  obtain ⟨hx, hb, -⟩ := id M
  have hl : lv_has ls 4 [(0, .ref h), (1, .int (nI k))] := hl
  have := hI.n6
  have := hI.over
  have := hI.keep
  have := hI.stepp
  refine lv_iconst (v := (nI 0)) hx hb dX1_askedOf_0 (by decide) ?_
  refine lv_istore_n (lv' := [(2, .int (nI 0)), (0, .ref h), (1, .int (nI k))]) hx hb dX1_askedOf_1 rfl hl (by decide) rfl (fun ls hl => ?_)
  refine lv_iconst (v := (nI 0)) hx hb dX1_askedOf_2 (by decide) ?_
  refine lv_istore_n (lv' := [(3, .int (nI 0)), (2, .int (nI 0)), (0, .ref h), (1, .int (nI k))]) hx hb dX1_askedOf_3 rfl hl (by decide) rfl (fun ls hl => ?_)
  have L4 : ∀ (fu : Nat) (i : Nat) (x : Nat), (ρ 4 - i < fu) → (i ≤ ρ 4) → (x = sumB (fun b => ρ (19 + 21 * b + k)) i) → ∀ (H : Heap) (locs : List Loc), xW G A s.heap [aucW Y h ρ γ] H locs → ∀ (ls : Array Slot), lv_has ls 4 [(0, .ref h), (1, .int (nI k)), (2, .int (nI x)), (3, .int (nI i))] → W p l e (xRm 1 21) s m args below meth c H locs 0 0 Q (F0 m 4 ls []) := by
    intro fu
    induction fu with
    | zero => intro i x hm; exact absurd hm (Nat.not_lt_zero _)
    | succ fu ih4 =>
      intro i x hm hi hx2 H locs hw ls hl
      refine lv_iload_n hx hb dX1_askedOf_4 rfl (lv_at hl 3 rfl) ?_
      refine lv_aload_n hx hb dX1_askedOf_5 rfl (lv_at hl 0 rfl) ?_
      refine x_get M hK hw 0 0 rfl rfl ff_X1_45 rfl dX1_askedOf_6 ?_
      refine x_cge M (tgt := 31) (by omega) (by omega) dX1_askedOf_9 (by decide) (fun c_1 => ?_) (fun c_1 => ?_)
      · refine lv_iload_n hx hb dX1_askedOf_31 rfl (lv_at hl 2 rfl) ?_
        exact hret _ _ _ (nI x) _ _ dX1_askedOf_32 hw rfl rfl ⟨by rw [hx2, show i = ρ 4 by omega]; rfl, rfl⟩
      refine lv_iload_n hx hb dX1_askedOf_12 rfl (lv_at hl 2 rfl) ?_
      refine lv_aload_n hx hb dX1_askedOf_13 rfl (lv_at hl 0 rfl) ?_
      refine x_get M hK hw 0 0 rfl rfl ff_X1_33 rfl dX1_askedOf_14 ?_
      refine lv_iload_n hx hb dX1_askedOf_17 rfl (lv_at hl 3 rfl) ?_
      refine lv_iload_n hx hb dX1_askedOf_18 rfl (lv_at hl 1 rfl) ?_
      refine x_cNI (As := [.int (nI i), .int (nI k)]) (k_X5_cell l G Y i k) cw_X1_72 [] M hK hZ hw hl.1 rfl (by decide) ⟨by decide, by decide⟩ ⟨Nat.zero_le _, Nat.zero_le _⟩ rfl rfl (Nat.le_of_ble_eq_true rfl) dX1_askedOf_19 (fun r sg h_2 H locs hw => ?_)
      obtain ⟨rfl, rfl⟩ := h_2
      have hw : xW G A s.heap [aucW Y h ρ γ] H locs := hw
      refine x_iald M hK hw 0 8 rfl rfl (by omega) (by decide) dX1_askedOf_22 ?_
      refine x_topN (n := ρ (19 + 21 * i + k)) (congrArg nI (dem_at (j := i) (k := k) (by omega) (by omega) (by omega) (by omega))) ?_
      have q_3 : ρ (19 + 21 * i + k) ≤ 9 := hI.dem (j := i) (by omega) (k := k) (by omega) (by omega)
      refine x_iadd M (n := x + ρ (19 + 21 * i + k)) dX1_askedOf_23 rfl ?_
      refine lv_istore_n (lv' := [(2, .int (nI (x + ρ (19 + 21 * i + k)))), (0, .ref h), (1, .int (nI k)), (3, .int (nI i))]) hx hb dX1_askedOf_24 rfl hl (by decide) rfl (fun ls hl => ?_)
      refine lv_iinc (v := (nI (1 + i))) (lv' := [(3, .int (nI (1 + i))), (2, .int (nI (x + ρ (19 + 21 * i + k)))), (0, .ref h), (1, .int (nI k))]) hx hb dX1_askedOf_25 hl (k := 3) rfl (by rw [show (1 : Int) = ((1 : Nat) : Int) from rfl, nI_inc]; exact congrArg nI (by omega)) (by decide) rfl (fun ls hl => ?_)
      refine lv_goto (tgt := 4) hx hb dX1_askedOf_28 (by decide) ?_
      exact ih4 (1 + i) (x + ρ (19 + 21 * i + k)) (by omega) (by omega) (by rw [sumB_1, ← hx2]) _ _ hw _ (lv_sub hl [2, 3, 1, 0] rfl)
  exact L4 (ρ 4 - 0 + 1) 0 0 (Nat.lt_succ_self _) (by omega) (rfl) _ _ hw _ (lv_sub hl [2, 3, 1, 0] rfl)
set_option maxHeartbeats 4000000 in
set_option maxRecDepth 20000 in
theorem k_X1_scarceKinds (l : Launch) (G : va_G) (Y : Nat → Nat) (h : Nat) (ρ : Nat → Nat) (γ : Nat → Nat → Nat) (hI : Inv ρ) : CtI l yX1_scarceKinds cX1_scarceKinds 3 .int 2 44 [.ref h] [aucW Y h ρ γ] (fun r sg => r = nI (scarce ρ) ∧ sg = [aucW Y h ρ γ]) G Y := by
  refine x_ofI (by decide) (Nat.le_of_ble_eq_true rfl) (fun p e s m args below meth c A ls Q M hK hZ hw hl hret => ?_)
  obtain ⟨hx, hb, -⟩ := id M
  have hl : lv_has ls 3 [(0, .ref h)] := hl
  have := hI.n6
  have := hI.over
  have := hI.keep
  have := hI.stepp
  refine lv_iconst (v := (nI 0)) hx hb dX1_scarceKinds_0 (by decide) ?_
  refine lv_istore_n (lv' := [(1, .int (nI 0)), (0, .ref h)]) hx hb dX1_scarceKinds_1 rfl hl (by decide) rfl (fun ls hl => ?_)
  refine lv_iconst (v := (nI 0)) hx hb dX1_scarceKinds_2 (by decide) ?_
  refine lv_istore_n (lv' := [(2, .int (nI 0)), (1, .int (nI 0)), (0, .ref h)]) hx hb dX1_scarceKinds_3 rfl hl (by decide) rfl (fun ls hl => ?_)
  refine lv_iload_n hx hb dX1_scarceKinds_4 rfl (lv_at hl 0 rfl) ?_
  refine lv_iconst (v := (nI 3)) hx hb dX1_scarceKinds_5 (by decide) ?_
  refine x_cge M (tgt := 32) (by decide) (by decide) dX1_scarceKinds_6 (by decide) (fun c_1 => absurd c_1 (by decide)) (fun c_1 => ?_)
  refine lv_aload_n hx hb dX1_scarceKinds_9 rfl (lv_at hl 2 rfl) ?_
  refine lv_iload_n hx hb dX1_scarceKinds_10 rfl (lv_at hl 0 rfl) ?_
  refine x_cVI (As := [.int (nI 0)]) (k_X1_askedOf l G Y h 0 ρ γ (hI) (by omega)) cw_X1_76 [0] 0 0 M hK hZ hw hl.1 rfl (by decide) rfl rfl rfl ⟨by decide, by decide⟩ ⟨Nat.zero_le _, Nat.zero_le _⟩ rfl rfl (Nat.le_of_ble_eq_true rfl) dX1_scarceKinds_11 (fun r sg h_2 H locs hw => ?_)
  obtain ⟨rfl, rfl⟩ := h_2
  have hw : xW G A s.heap [aucW Y h ρ γ] H locs := hw
  have q_3 : askedOf ρ 0 ≤ 54 := askedOf_le hI (by omega)
  refine lv_aload_n hx hb dX1_scarceKinds_14 rfl (lv_at hl 2 rfl) ?_
  refine x_get M hK hw 0 0 rfl rfl ff_X1_9 rfl dX1_scarceKinds_15 ?_
  refine lv_iload_n hx hb dX1_scarceKinds_18 rfl (lv_at hl 0 rfl) ?_
  refine x_iald M hK hw 0 1 rfl rfl (by decide) (by decide) dX1_scarceKinds_19 ?_
  refine x_topN (n := ρ 5) rfl ?_
  have q_4 : 1 ≤ ρ 5 := (hI.sup (q := 5) (k := 0) (by decide) rfl).1
  have q_5 : ρ 5 ≤ 9 := (hI.sup (q := 5) (k := 0) (by decide) rfl).2
  refine x_cle M (tgt := 26) (by omega) (by omega) dX1_scarceKinds_20 (by decide) (fun c_6 => ?_) (fun c_6 => ?_)
  · refine lv_iinc (v := (nI 1)) (lv' := [(2, .int (nI 1)), (1, .int (nI 0)), (0, .ref h)]) hx hb dX1_scarceKinds_26 hl (k := 0) rfl (by decide) (by decide) rfl (fun ls hl => ?_)
    refine lv_goto (tgt := 4) hx hb dX1_scarceKinds_29 (by decide) ?_
    refine lv_iload_n hx hb dX1_scarceKinds_4 rfl (lv_at hl 0 rfl) ?_
    refine lv_iconst (v := (nI 3)) hx hb dX1_scarceKinds_5 (by decide) ?_
    refine x_cge M (tgt := 32) (by decide) (by decide) dX1_scarceKinds_6 (by decide) (fun c_7 => absurd c_7 (by decide)) (fun c_7 => ?_)
    refine lv_aload_n hx hb dX1_scarceKinds_9 rfl (lv_at hl 2 rfl) ?_
    refine lv_iload_n hx hb dX1_scarceKinds_10 rfl (lv_at hl 0 rfl) ?_
    refine x_cVI (As := [.int (nI 1)]) (k_X1_askedOf l G Y h 1 ρ γ (hI) (by omega)) cw_X1_76 [0] 0 0 M hK hZ hw hl.1 rfl (by decide) rfl rfl rfl ⟨by decide, by decide⟩ ⟨Nat.zero_le _, Nat.zero_le _⟩ rfl rfl (Nat.le_of_ble_eq_true rfl) dX1_scarceKinds_11 (fun r sg h_8 H locs hw => ?_)
    obtain ⟨rfl, rfl⟩ := h_8
    have hw : xW G A s.heap [aucW Y h ρ γ] H locs := hw
    have q_9 : askedOf ρ 1 ≤ 54 := askedOf_le hI (by omega)
    refine lv_aload_n hx hb dX1_scarceKinds_14 rfl (lv_at hl 2 rfl) ?_
    refine x_get M hK hw 0 0 rfl rfl ff_X1_9 rfl dX1_scarceKinds_15 ?_
    refine lv_iload_n hx hb dX1_scarceKinds_18 rfl (lv_at hl 0 rfl) ?_
    refine x_iald M hK hw 0 1 rfl rfl (by decide) (by decide) dX1_scarceKinds_19 ?_
    refine x_topN (n := ρ 6) rfl ?_
    have q_10 : 1 ≤ ρ 6 := (hI.sup (q := 6) (k := 1) (by decide) rfl).1
    have q_11 : ρ 6 ≤ 9 := (hI.sup (q := 6) (k := 1) (by decide) rfl).2
    refine x_cle M (tgt := 26) (by omega) (by omega) dX1_scarceKinds_20 (by decide) (fun c_12 => ?_) (fun c_12 => ?_)
    · refine lv_iinc (v := (nI 2)) (lv' := [(2, .int (nI 2)), (1, .int (nI 0)), (0, .ref h)]) hx hb dX1_scarceKinds_26 hl (k := 0) rfl (by decide) (by decide) rfl (fun ls hl => ?_)
      refine lv_goto (tgt := 4) hx hb dX1_scarceKinds_29 (by decide) ?_
      refine lv_iload_n hx hb dX1_scarceKinds_4 rfl (lv_at hl 0 rfl) ?_
      refine lv_iconst (v := (nI 3)) hx hb dX1_scarceKinds_5 (by decide) ?_
      refine x_cge M (tgt := 32) (by decide) (by decide) dX1_scarceKinds_6 (by decide) (fun c_13 => absurd c_13 (by decide)) (fun c_13 => ?_)
      refine lv_aload_n hx hb dX1_scarceKinds_9 rfl (lv_at hl 2 rfl) ?_
      refine lv_iload_n hx hb dX1_scarceKinds_10 rfl (lv_at hl 0 rfl) ?_
      refine x_cVI (As := [.int (nI 2)]) (k_X1_askedOf l G Y h 2 ρ γ (hI) (by omega)) cw_X1_76 [0] 0 0 M hK hZ hw hl.1 rfl (by decide) rfl rfl rfl ⟨by decide, by decide⟩ ⟨Nat.zero_le _, Nat.zero_le _⟩ rfl rfl (Nat.le_of_ble_eq_true rfl) dX1_scarceKinds_11 (fun r sg h_14 H locs hw => ?_)
      obtain ⟨rfl, rfl⟩ := h_14
      have hw : xW G A s.heap [aucW Y h ρ γ] H locs := hw
      have q_15 : askedOf ρ 2 ≤ 54 := askedOf_le hI (by omega)
      refine lv_aload_n hx hb dX1_scarceKinds_14 rfl (lv_at hl 2 rfl) ?_
      refine x_get M hK hw 0 0 rfl rfl ff_X1_9 rfl dX1_scarceKinds_15 ?_
      refine lv_iload_n hx hb dX1_scarceKinds_18 rfl (lv_at hl 0 rfl) ?_
      refine x_iald M hK hw 0 1 rfl rfl (by decide) (by decide) dX1_scarceKinds_19 ?_
      refine x_topN (n := ρ 7) rfl ?_
      have q_16 : 1 ≤ ρ 7 := (hI.sup (q := 7) (k := 2) (by decide) rfl).1
      have q_17 : ρ 7 ≤ 9 := (hI.sup (q := 7) (k := 2) (by decide) rfl).2
      refine x_cle M (tgt := 26) (by omega) (by omega) dX1_scarceKinds_20 (by decide) (fun c_18 => ?_) (fun c_18 => ?_)
      · refine lv_iinc (v := (nI 3)) (lv' := [(2, .int (nI 3)), (1, .int (nI 0)), (0, .ref h)]) hx hb dX1_scarceKinds_26 hl (k := 0) rfl (by decide) (by decide) rfl (fun ls hl => ?_)
        refine lv_goto (tgt := 4) hx hb dX1_scarceKinds_29 (by decide) ?_
        refine lv_iload_n hx hb dX1_scarceKinds_4 rfl (lv_at hl 0 rfl) ?_
        refine lv_iconst (v := (nI 3)) hx hb dX1_scarceKinds_5 (by decide) ?_
        refine x_cge M (tgt := 32) (by decide) (by decide) dX1_scarceKinds_6 (by decide) (fun c_19 => ?_) (fun c_19 => absurd c_19 (by decide))
        refine lv_iload_n hx hb dX1_scarceKinds_32 rfl (lv_at hl 1 rfl) ?_
        exact hret _ _ _ (nI 0) _ _ dX1_scarceKinds_33 hw rfl rfl ⟨congrArg nI (by simp only [scarce, scar, Nat.reduceAdd]; rw [if_neg (by omega)]; rw [if_neg (by omega)]; rw [if_neg (by omega)]), rfl⟩
      refine lv_iinc (v := (nI 1)) (lv' := [(1, .int (nI 1)), (2, .int (nI 2)), (0, .ref h)]) hx hb dX1_scarceKinds_23 hl (k := 1) rfl (by decide) (by decide) rfl (fun ls hl => ?_)
      refine lv_iinc (v := (nI 3)) (lv' := [(2, .int (nI 3)), (1, .int (nI 1)), (0, .ref h)]) hx hb dX1_scarceKinds_26 hl (k := 1) rfl (by decide) (by decide) rfl (fun ls hl => ?_)
      refine lv_goto (tgt := 4) hx hb dX1_scarceKinds_29 (by decide) ?_
      refine lv_iload_n hx hb dX1_scarceKinds_4 rfl (lv_at hl 0 rfl) ?_
      refine lv_iconst (v := (nI 3)) hx hb dX1_scarceKinds_5 (by decide) ?_
      refine x_cge M (tgt := 32) (by decide) (by decide) dX1_scarceKinds_6 (by decide) (fun c_20 => ?_) (fun c_20 => absurd c_20 (by decide))
      refine lv_iload_n hx hb dX1_scarceKinds_32 rfl (lv_at hl 1 rfl) ?_
      exact hret _ _ _ (nI 1) _ _ dX1_scarceKinds_33 hw rfl rfl ⟨congrArg nI (by simp only [scarce, scar, Nat.reduceAdd]; rw [if_neg (by omega)]; rw [if_neg (by omega)]; rw [if_pos (by omega)]), rfl⟩
    refine lv_iinc (v := (nI 1)) (lv' := [(1, .int (nI 1)), (2, .int (nI 1)), (0, .ref h)]) hx hb dX1_scarceKinds_23 hl (k := 1) rfl (by decide) (by decide) rfl (fun ls hl => ?_)
    refine lv_iinc (v := (nI 2)) (lv' := [(2, .int (nI 2)), (1, .int (nI 1)), (0, .ref h)]) hx hb dX1_scarceKinds_26 hl (k := 1) rfl (by decide) (by decide) rfl (fun ls hl => ?_)
    refine lv_goto (tgt := 4) hx hb dX1_scarceKinds_29 (by decide) ?_
    refine lv_iload_n hx hb dX1_scarceKinds_4 rfl (lv_at hl 0 rfl) ?_
    refine lv_iconst (v := (nI 3)) hx hb dX1_scarceKinds_5 (by decide) ?_
    refine x_cge M (tgt := 32) (by decide) (by decide) dX1_scarceKinds_6 (by decide) (fun c_21 => absurd c_21 (by decide)) (fun c_21 => ?_)
    refine lv_aload_n hx hb dX1_scarceKinds_9 rfl (lv_at hl 2 rfl) ?_
    refine lv_iload_n hx hb dX1_scarceKinds_10 rfl (lv_at hl 0 rfl) ?_
    refine x_cVI (As := [.int (nI 2)]) (k_X1_askedOf l G Y h 2 ρ γ (hI) (by omega)) cw_X1_76 [0] 0 0 M hK hZ hw hl.1 rfl (by decide) rfl rfl rfl ⟨by decide, by decide⟩ ⟨Nat.zero_le _, Nat.zero_le _⟩ rfl rfl (Nat.le_of_ble_eq_true rfl) dX1_scarceKinds_11 (fun r sg h_22 H locs hw => ?_)
    obtain ⟨rfl, rfl⟩ := h_22
    have hw : xW G A s.heap [aucW Y h ρ γ] H locs := hw
    have q_23 : askedOf ρ 2 ≤ 54 := askedOf_le hI (by omega)
    refine lv_aload_n hx hb dX1_scarceKinds_14 rfl (lv_at hl 2 rfl) ?_
    refine x_get M hK hw 0 0 rfl rfl ff_X1_9 rfl dX1_scarceKinds_15 ?_
    refine lv_iload_n hx hb dX1_scarceKinds_18 rfl (lv_at hl 0 rfl) ?_
    refine x_iald M hK hw 0 1 rfl rfl (by decide) (by decide) dX1_scarceKinds_19 ?_
    refine x_topN (n := ρ 7) rfl ?_
    have q_24 : 1 ≤ ρ 7 := (hI.sup (q := 7) (k := 2) (by decide) rfl).1
    have q_25 : ρ 7 ≤ 9 := (hI.sup (q := 7) (k := 2) (by decide) rfl).2
    refine x_cle M (tgt := 26) (by omega) (by omega) dX1_scarceKinds_20 (by decide) (fun c_26 => ?_) (fun c_26 => ?_)
    · refine lv_iinc (v := (nI 3)) (lv' := [(2, .int (nI 3)), (1, .int (nI 1)), (0, .ref h)]) hx hb dX1_scarceKinds_26 hl (k := 0) rfl (by decide) (by decide) rfl (fun ls hl => ?_)
      refine lv_goto (tgt := 4) hx hb dX1_scarceKinds_29 (by decide) ?_
      refine lv_iload_n hx hb dX1_scarceKinds_4 rfl (lv_at hl 0 rfl) ?_
      refine lv_iconst (v := (nI 3)) hx hb dX1_scarceKinds_5 (by decide) ?_
      refine x_cge M (tgt := 32) (by decide) (by decide) dX1_scarceKinds_6 (by decide) (fun c_27 => ?_) (fun c_27 => absurd c_27 (by decide))
      refine lv_iload_n hx hb dX1_scarceKinds_32 rfl (lv_at hl 1 rfl) ?_
      exact hret _ _ _ (nI 1) _ _ dX1_scarceKinds_33 hw rfl rfl ⟨congrArg nI (by simp only [scarce, scar, Nat.reduceAdd]; rw [if_neg (by omega)]; rw [if_pos (by omega)]; rw [if_neg (by omega)]), rfl⟩
    refine lv_iinc (v := (nI 2)) (lv' := [(1, .int (nI 2)), (2, .int (nI 2)), (0, .ref h)]) hx hb dX1_scarceKinds_23 hl (k := 1) rfl (by decide) (by decide) rfl (fun ls hl => ?_)
    refine lv_iinc (v := (nI 3)) (lv' := [(2, .int (nI 3)), (1, .int (nI 2)), (0, .ref h)]) hx hb dX1_scarceKinds_26 hl (k := 1) rfl (by decide) (by decide) rfl (fun ls hl => ?_)
    refine lv_goto (tgt := 4) hx hb dX1_scarceKinds_29 (by decide) ?_
    refine lv_iload_n hx hb dX1_scarceKinds_4 rfl (lv_at hl 0 rfl) ?_
    refine lv_iconst (v := (nI 3)) hx hb dX1_scarceKinds_5 (by decide) ?_
    refine x_cge M (tgt := 32) (by decide) (by decide) dX1_scarceKinds_6 (by decide) (fun c_28 => ?_) (fun c_28 => absurd c_28 (by decide))
    refine lv_iload_n hx hb dX1_scarceKinds_32 rfl (lv_at hl 1 rfl) ?_
    exact hret _ _ _ (nI 2) _ _ dX1_scarceKinds_33 hw rfl rfl ⟨congrArg nI (by simp only [scarce, scar, Nat.reduceAdd]; rw [if_neg (by omega)]; rw [if_pos (by omega)]; rw [if_pos (by omega)]), rfl⟩
  refine lv_iinc (v := (nI 1)) (lv' := [(1, .int (nI 1)), (2, .int (nI 0)), (0, .ref h)]) hx hb dX1_scarceKinds_23 hl (k := 1) rfl (by decide) (by decide) rfl (fun ls hl => ?_)
  refine lv_iinc (v := (nI 1)) (lv' := [(2, .int (nI 1)), (1, .int (nI 1)), (0, .ref h)]) hx hb dX1_scarceKinds_26 hl (k := 1) rfl (by decide) (by decide) rfl (fun ls hl => ?_)
  refine lv_goto (tgt := 4) hx hb dX1_scarceKinds_29 (by decide) ?_
  refine lv_iload_n hx hb dX1_scarceKinds_4 rfl (lv_at hl 0 rfl) ?_
  refine lv_iconst (v := (nI 3)) hx hb dX1_scarceKinds_5 (by decide) ?_
  refine x_cge M (tgt := 32) (by decide) (by decide) dX1_scarceKinds_6 (by decide) (fun c_29 => absurd c_29 (by decide)) (fun c_29 => ?_)
  refine lv_aload_n hx hb dX1_scarceKinds_9 rfl (lv_at hl 2 rfl) ?_
  refine lv_iload_n hx hb dX1_scarceKinds_10 rfl (lv_at hl 0 rfl) ?_
  refine x_cVI (As := [.int (nI 1)]) (k_X1_askedOf l G Y h 1 ρ γ (hI) (by omega)) cw_X1_76 [0] 0 0 M hK hZ hw hl.1 rfl (by decide) rfl rfl rfl ⟨by decide, by decide⟩ ⟨Nat.zero_le _, Nat.zero_le _⟩ rfl rfl (Nat.le_of_ble_eq_true rfl) dX1_scarceKinds_11 (fun r sg h_30 H locs hw => ?_)
  obtain ⟨rfl, rfl⟩ := h_30
  have hw : xW G A s.heap [aucW Y h ρ γ] H locs := hw
  have q_31 : askedOf ρ 1 ≤ 54 := askedOf_le hI (by omega)
  refine lv_aload_n hx hb dX1_scarceKinds_14 rfl (lv_at hl 2 rfl) ?_
  refine x_get M hK hw 0 0 rfl rfl ff_X1_9 rfl dX1_scarceKinds_15 ?_
  refine lv_iload_n hx hb dX1_scarceKinds_18 rfl (lv_at hl 0 rfl) ?_
  refine x_iald M hK hw 0 1 rfl rfl (by decide) (by decide) dX1_scarceKinds_19 ?_
  refine x_topN (n := ρ 6) rfl ?_
  have q_32 : 1 ≤ ρ 6 := (hI.sup (q := 6) (k := 1) (by decide) rfl).1
  have q_33 : ρ 6 ≤ 9 := (hI.sup (q := 6) (k := 1) (by decide) rfl).2
  refine x_cle M (tgt := 26) (by omega) (by omega) dX1_scarceKinds_20 (by decide) (fun c_34 => ?_) (fun c_34 => ?_)
  · refine lv_iinc (v := (nI 2)) (lv' := [(2, .int (nI 2)), (1, .int (nI 1)), (0, .ref h)]) hx hb dX1_scarceKinds_26 hl (k := 0) rfl (by decide) (by decide) rfl (fun ls hl => ?_)
    refine lv_goto (tgt := 4) hx hb dX1_scarceKinds_29 (by decide) ?_
    refine lv_iload_n hx hb dX1_scarceKinds_4 rfl (lv_at hl 0 rfl) ?_
    refine lv_iconst (v := (nI 3)) hx hb dX1_scarceKinds_5 (by decide) ?_
    refine x_cge M (tgt := 32) (by decide) (by decide) dX1_scarceKinds_6 (by decide) (fun c_35 => absurd c_35 (by decide)) (fun c_35 => ?_)
    refine lv_aload_n hx hb dX1_scarceKinds_9 rfl (lv_at hl 2 rfl) ?_
    refine lv_iload_n hx hb dX1_scarceKinds_10 rfl (lv_at hl 0 rfl) ?_
    refine x_cVI (As := [.int (nI 2)]) (k_X1_askedOf l G Y h 2 ρ γ (hI) (by omega)) cw_X1_76 [0] 0 0 M hK hZ hw hl.1 rfl (by decide) rfl rfl rfl ⟨by decide, by decide⟩ ⟨Nat.zero_le _, Nat.zero_le _⟩ rfl rfl (Nat.le_of_ble_eq_true rfl) dX1_scarceKinds_11 (fun r sg h_36 H locs hw => ?_)
    obtain ⟨rfl, rfl⟩ := h_36
    have hw : xW G A s.heap [aucW Y h ρ γ] H locs := hw
    have q_37 : askedOf ρ 2 ≤ 54 := askedOf_le hI (by omega)
    refine lv_aload_n hx hb dX1_scarceKinds_14 rfl (lv_at hl 2 rfl) ?_
    refine x_get M hK hw 0 0 rfl rfl ff_X1_9 rfl dX1_scarceKinds_15 ?_
    refine lv_iload_n hx hb dX1_scarceKinds_18 rfl (lv_at hl 0 rfl) ?_
    refine x_iald M hK hw 0 1 rfl rfl (by decide) (by decide) dX1_scarceKinds_19 ?_
    refine x_topN (n := ρ 7) rfl ?_
    have q_38 : 1 ≤ ρ 7 := (hI.sup (q := 7) (k := 2) (by decide) rfl).1
    have q_39 : ρ 7 ≤ 9 := (hI.sup (q := 7) (k := 2) (by decide) rfl).2
    refine x_cle M (tgt := 26) (by omega) (by omega) dX1_scarceKinds_20 (by decide) (fun c_40 => ?_) (fun c_40 => ?_)
    · refine lv_iinc (v := (nI 3)) (lv' := [(2, .int (nI 3)), (1, .int (nI 1)), (0, .ref h)]) hx hb dX1_scarceKinds_26 hl (k := 0) rfl (by decide) (by decide) rfl (fun ls hl => ?_)
      refine lv_goto (tgt := 4) hx hb dX1_scarceKinds_29 (by decide) ?_
      refine lv_iload_n hx hb dX1_scarceKinds_4 rfl (lv_at hl 0 rfl) ?_
      refine lv_iconst (v := (nI 3)) hx hb dX1_scarceKinds_5 (by decide) ?_
      refine x_cge M (tgt := 32) (by decide) (by decide) dX1_scarceKinds_6 (by decide) (fun c_41 => ?_) (fun c_41 => absurd c_41 (by decide))
      refine lv_iload_n hx hb dX1_scarceKinds_32 rfl (lv_at hl 1 rfl) ?_
      exact hret _ _ _ (nI 1) _ _ dX1_scarceKinds_33 hw rfl rfl ⟨congrArg nI (by simp only [scarce, scar, Nat.reduceAdd]; rw [if_pos (by omega)]; rw [if_neg (by omega)]; rw [if_neg (by omega)]), rfl⟩
    refine lv_iinc (v := (nI 2)) (lv' := [(1, .int (nI 2)), (2, .int (nI 2)), (0, .ref h)]) hx hb dX1_scarceKinds_23 hl (k := 1) rfl (by decide) (by decide) rfl (fun ls hl => ?_)
    refine lv_iinc (v := (nI 3)) (lv' := [(2, .int (nI 3)), (1, .int (nI 2)), (0, .ref h)]) hx hb dX1_scarceKinds_26 hl (k := 1) rfl (by decide) (by decide) rfl (fun ls hl => ?_)
    refine lv_goto (tgt := 4) hx hb dX1_scarceKinds_29 (by decide) ?_
    refine lv_iload_n hx hb dX1_scarceKinds_4 rfl (lv_at hl 0 rfl) ?_
    refine lv_iconst (v := (nI 3)) hx hb dX1_scarceKinds_5 (by decide) ?_
    refine x_cge M (tgt := 32) (by decide) (by decide) dX1_scarceKinds_6 (by decide) (fun c_42 => ?_) (fun c_42 => absurd c_42 (by decide))
    refine lv_iload_n hx hb dX1_scarceKinds_32 rfl (lv_at hl 1 rfl) ?_
    exact hret _ _ _ (nI 2) _ _ dX1_scarceKinds_33 hw rfl rfl ⟨congrArg nI (by simp only [scarce, scar, Nat.reduceAdd]; rw [if_pos (by omega)]; rw [if_neg (by omega)]; rw [if_pos (by omega)]), rfl⟩
  refine lv_iinc (v := (nI 2)) (lv' := [(1, .int (nI 2)), (2, .int (nI 1)), (0, .ref h)]) hx hb dX1_scarceKinds_23 hl (k := 1) rfl (by decide) (by decide) rfl (fun ls hl => ?_)
  refine lv_iinc (v := (nI 2)) (lv' := [(2, .int (nI 2)), (1, .int (nI 2)), (0, .ref h)]) hx hb dX1_scarceKinds_26 hl (k := 1) rfl (by decide) (by decide) rfl (fun ls hl => ?_)
  refine lv_goto (tgt := 4) hx hb dX1_scarceKinds_29 (by decide) ?_
  refine lv_iload_n hx hb dX1_scarceKinds_4 rfl (lv_at hl 0 rfl) ?_
  refine lv_iconst (v := (nI 3)) hx hb dX1_scarceKinds_5 (by decide) ?_
  refine x_cge M (tgt := 32) (by decide) (by decide) dX1_scarceKinds_6 (by decide) (fun c_43 => absurd c_43 (by decide)) (fun c_43 => ?_)
  refine lv_aload_n hx hb dX1_scarceKinds_9 rfl (lv_at hl 2 rfl) ?_
  refine lv_iload_n hx hb dX1_scarceKinds_10 rfl (lv_at hl 0 rfl) ?_
  refine x_cVI (As := [.int (nI 2)]) (k_X1_askedOf l G Y h 2 ρ γ (hI) (by omega)) cw_X1_76 [0] 0 0 M hK hZ hw hl.1 rfl (by decide) rfl rfl rfl ⟨by decide, by decide⟩ ⟨Nat.zero_le _, Nat.zero_le _⟩ rfl rfl (Nat.le_of_ble_eq_true rfl) dX1_scarceKinds_11 (fun r sg h_44 H locs hw => ?_)
  obtain ⟨rfl, rfl⟩ := h_44
  have hw : xW G A s.heap [aucW Y h ρ γ] H locs := hw
  have q_45 : askedOf ρ 2 ≤ 54 := askedOf_le hI (by omega)
  refine lv_aload_n hx hb dX1_scarceKinds_14 rfl (lv_at hl 2 rfl) ?_
  refine x_get M hK hw 0 0 rfl rfl ff_X1_9 rfl dX1_scarceKinds_15 ?_
  refine lv_iload_n hx hb dX1_scarceKinds_18 rfl (lv_at hl 0 rfl) ?_
  refine x_iald M hK hw 0 1 rfl rfl (by decide) (by decide) dX1_scarceKinds_19 ?_
  refine x_topN (n := ρ 7) rfl ?_
  have q_46 : 1 ≤ ρ 7 := (hI.sup (q := 7) (k := 2) (by decide) rfl).1
  have q_47 : ρ 7 ≤ 9 := (hI.sup (q := 7) (k := 2) (by decide) rfl).2
  refine x_cle M (tgt := 26) (by omega) (by omega) dX1_scarceKinds_20 (by decide) (fun c_48 => ?_) (fun c_48 => ?_)
  · refine lv_iinc (v := (nI 3)) (lv' := [(2, .int (nI 3)), (1, .int (nI 2)), (0, .ref h)]) hx hb dX1_scarceKinds_26 hl (k := 0) rfl (by decide) (by decide) rfl (fun ls hl => ?_)
    refine lv_goto (tgt := 4) hx hb dX1_scarceKinds_29 (by decide) ?_
    refine lv_iload_n hx hb dX1_scarceKinds_4 rfl (lv_at hl 0 rfl) ?_
    refine lv_iconst (v := (nI 3)) hx hb dX1_scarceKinds_5 (by decide) ?_
    refine x_cge M (tgt := 32) (by decide) (by decide) dX1_scarceKinds_6 (by decide) (fun c_49 => ?_) (fun c_49 => absurd c_49 (by decide))
    refine lv_iload_n hx hb dX1_scarceKinds_32 rfl (lv_at hl 1 rfl) ?_
    exact hret _ _ _ (nI 2) _ _ dX1_scarceKinds_33 hw rfl rfl ⟨congrArg nI (by simp only [scarce, scar, Nat.reduceAdd]; rw [if_pos (by omega)]; rw [if_pos (by omega)]; rw [if_neg (by omega)]), rfl⟩
  refine lv_iinc (v := (nI 3)) (lv' := [(1, .int (nI 3)), (2, .int (nI 2)), (0, .ref h)]) hx hb dX1_scarceKinds_23 hl (k := 1) rfl (by decide) (by decide) rfl (fun ls hl => ?_)
  refine lv_iinc (v := (nI 3)) (lv' := [(2, .int (nI 3)), (1, .int (nI 3)), (0, .ref h)]) hx hb dX1_scarceKinds_26 hl (k := 1) rfl (by decide) (by decide) rfl (fun ls hl => ?_)
  refine lv_goto (tgt := 4) hx hb dX1_scarceKinds_29 (by decide) ?_
  refine lv_iload_n hx hb dX1_scarceKinds_4 rfl (lv_at hl 0 rfl) ?_
  refine lv_iconst (v := (nI 3)) hx hb dX1_scarceKinds_5 (by decide) ?_
  refine x_cge M (tgt := 32) (by decide) (by decide) dX1_scarceKinds_6 (by decide) (fun c_50 => ?_) (fun c_50 => absurd c_50 (by decide))
  refine lv_iload_n hx hb dX1_scarceKinds_32 rfl (lv_at hl 1 rfl) ?_
  exact hret _ _ _ (nI 3) _ _ dX1_scarceKinds_33 hw rfl rfl ⟨congrArg nI (by simp only [scarce, scar, Nat.reduceAdd]; rw [if_pos (by omega)]; rw [if_pos (by omega)]; rw [if_pos (by omega)]), rfl⟩
set_option maxHeartbeats 4000000 in
set_option maxRecDepth 20000 in
theorem k_X1_allDemands (l : Launch) (G : va_G) (Y : Nat → Nat) (h : Nat) (ρ : Nat → Nat) (γ : Nat → Nat → Nat) (hI : Inv ρ) : CtI l yX1_allDemands cX1_allDemands 3 .int 2 44 [.ref h] [aucW Y h ρ γ] (fun r sg => r = nI (allDem ρ) ∧ sg = [aucW Y h ρ γ]) G Y := by
  refine x_ofI (by decide) (Nat.le_of_ble_eq_true rfl) (fun p e s m args below meth c A ls Q M hK hZ hw hl hret => ?_)
  obtain ⟨hx, hb, -⟩ := id M
  have hl : lv_has ls 3 [(0, .ref h)] := hl
  have := hI.n6
  have := hI.over
  have := hI.keep
  have := hI.stepp
  refine lv_iconst (v := (nI 0)) hx hb dX1_allDemands_0 (by decide) ?_
  refine lv_istore_n (lv' := [(1, .int (nI 0)), (0, .ref h)]) hx hb dX1_allDemands_1 rfl hl (by decide) rfl (fun ls hl => ?_)
  refine lv_iconst (v := (nI 0)) hx hb dX1_allDemands_2 (by decide) ?_
  refine lv_istore_n (lv' := [(2, .int (nI 0)), (1, .int (nI 0)), (0, .ref h)]) hx hb dX1_allDemands_3 rfl hl (by decide) rfl (fun ls hl => ?_)
  refine lv_iload_n hx hb dX1_allDemands_4 rfl (lv_at hl 0 rfl) ?_
  refine lv_iconst (v := (nI 3)) hx hb dX1_allDemands_5 (by decide) ?_
  refine x_cge M (tgt := 23) (by decide) (by decide) dX1_allDemands_6 (by decide) (fun c_1 => absurd c_1 (by decide)) (fun c_1 => ?_)
  refine lv_iload_n hx hb dX1_allDemands_9 rfl (lv_at hl 1 rfl) ?_
  refine lv_aload_n hx hb dX1_allDemands_10 rfl (lv_at hl 2 rfl) ?_
  refine lv_iload_n hx hb dX1_allDemands_11 rfl (lv_at hl 0 rfl) ?_
  refine x_cVI (As := [.int (nI 0)]) (k_X1_askedOf l G Y h 0 ρ γ (hI) (by omega)) cw_X1_76 [0] 0 0 M hK hZ hw hl.1 rfl (by decide) rfl rfl rfl ⟨by decide, by decide⟩ ⟨Nat.zero_le _, Nat.zero_le _⟩ rfl rfl (Nat.le_of_ble_eq_true rfl) dX1_allDemands_12 (fun r sg h_2 H locs hw => ?_)
  obtain ⟨rfl, rfl⟩ := h_2
  have hw : xW G A s.heap [aucW Y h ρ γ] H locs := hw
  have q_3 : askedOf ρ 0 ≤ 54 := askedOf_le hI (by omega)
  refine x_iadd M (n := askedOf ρ 0) dX1_allDemands_15 (by omega) ?_
  refine lv_istore_n (lv' := [(1, .int (nI (askedOf ρ 0))), (2, .int (nI 0)), (0, .ref h)]) hx hb dX1_allDemands_16 rfl hl (by decide) rfl (fun ls hl => ?_)
  refine lv_iinc (v := (nI 1)) (lv' := [(2, .int (nI 1)), (1, .int (nI (askedOf ρ 0))), (0, .ref h)]) hx hb dX1_allDemands_17 hl (k := 1) rfl (by decide) (by decide) rfl (fun ls hl => ?_)
  refine lv_goto (tgt := 4) hx hb dX1_allDemands_20 (by decide) ?_
  refine lv_iload_n hx hb dX1_allDemands_4 rfl (lv_at hl 0 rfl) ?_
  refine lv_iconst (v := (nI 3)) hx hb dX1_allDemands_5 (by decide) ?_
  refine x_cge M (tgt := 23) (by decide) (by decide) dX1_allDemands_6 (by decide) (fun c_4 => absurd c_4 (by decide)) (fun c_4 => ?_)
  refine lv_iload_n hx hb dX1_allDemands_9 rfl (lv_at hl 1 rfl) ?_
  refine lv_aload_n hx hb dX1_allDemands_10 rfl (lv_at hl 2 rfl) ?_
  refine lv_iload_n hx hb dX1_allDemands_11 rfl (lv_at hl 0 rfl) ?_
  refine x_cVI (As := [.int (nI 1)]) (k_X1_askedOf l G Y h 1 ρ γ (hI) (by omega)) cw_X1_76 [0] 0 0 M hK hZ hw hl.1 rfl (by decide) rfl rfl rfl ⟨by decide, by decide⟩ ⟨Nat.zero_le _, Nat.zero_le _⟩ rfl rfl (Nat.le_of_ble_eq_true rfl) dX1_allDemands_12 (fun r sg h_5 H locs hw => ?_)
  obtain ⟨rfl, rfl⟩ := h_5
  have hw : xW G A s.heap [aucW Y h ρ γ] H locs := hw
  have q_6 : askedOf ρ 1 ≤ 54 := askedOf_le hI (by omega)
  refine x_iadd M (n := askedOf ρ 0 + askedOf ρ 1) dX1_allDemands_15 rfl ?_
  refine lv_istore_n (lv' := [(1, .int (nI (askedOf ρ 0 + askedOf ρ 1))), (2, .int (nI 1)), (0, .ref h)]) hx hb dX1_allDemands_16 rfl hl (by decide) rfl (fun ls hl => ?_)
  refine lv_iinc (v := (nI 2)) (lv' := [(2, .int (nI 2)), (1, .int (nI (askedOf ρ 0 + askedOf ρ 1))), (0, .ref h)]) hx hb dX1_allDemands_17 hl (k := 1) rfl (by decide) (by decide) rfl (fun ls hl => ?_)
  refine lv_goto (tgt := 4) hx hb dX1_allDemands_20 (by decide) ?_
  refine lv_iload_n hx hb dX1_allDemands_4 rfl (lv_at hl 0 rfl) ?_
  refine lv_iconst (v := (nI 3)) hx hb dX1_allDemands_5 (by decide) ?_
  refine x_cge M (tgt := 23) (by decide) (by decide) dX1_allDemands_6 (by decide) (fun c_7 => absurd c_7 (by decide)) (fun c_7 => ?_)
  refine lv_iload_n hx hb dX1_allDemands_9 rfl (lv_at hl 1 rfl) ?_
  refine lv_aload_n hx hb dX1_allDemands_10 rfl (lv_at hl 2 rfl) ?_
  refine lv_iload_n hx hb dX1_allDemands_11 rfl (lv_at hl 0 rfl) ?_
  refine x_cVI (As := [.int (nI 2)]) (k_X1_askedOf l G Y h 2 ρ γ (hI) (by omega)) cw_X1_76 [0] 0 0 M hK hZ hw hl.1 rfl (by decide) rfl rfl rfl ⟨by decide, by decide⟩ ⟨Nat.zero_le _, Nat.zero_le _⟩ rfl rfl (Nat.le_of_ble_eq_true rfl) dX1_allDemands_12 (fun r sg h_8 H locs hw => ?_)
  obtain ⟨rfl, rfl⟩ := h_8
  have hw : xW G A s.heap [aucW Y h ρ γ] H locs := hw
  have q_9 : askedOf ρ 2 ≤ 54 := askedOf_le hI (by omega)
  refine x_iadd M (n := askedOf ρ 0 + askedOf ρ 1 + askedOf ρ 2) dX1_allDemands_15 rfl ?_
  refine lv_istore_n (lv' := [(1, .int (nI (askedOf ρ 0 + askedOf ρ 1 + askedOf ρ 2))), (2, .int (nI 2)), (0, .ref h)]) hx hb dX1_allDemands_16 rfl hl (by decide) rfl (fun ls hl => ?_)
  refine lv_iinc (v := (nI 3)) (lv' := [(2, .int (nI 3)), (1, .int (nI (askedOf ρ 0 + askedOf ρ 1 + askedOf ρ 2))), (0, .ref h)]) hx hb dX1_allDemands_17 hl (k := 1) rfl (by decide) (by decide) rfl (fun ls hl => ?_)
  refine lv_goto (tgt := 4) hx hb dX1_allDemands_20 (by decide) ?_
  refine lv_iload_n hx hb dX1_allDemands_4 rfl (lv_at hl 0 rfl) ?_
  refine lv_iconst (v := (nI 3)) hx hb dX1_allDemands_5 (by decide) ?_
  refine x_cge M (tgt := 23) (by decide) (by decide) dX1_allDemands_6 (by decide) (fun c_10 => ?_) (fun c_10 => absurd c_10 (by decide))
  refine lv_iload_n hx hb dX1_allDemands_23 rfl (lv_at hl 1 rfl) ?_
  exact hret _ _ _ (nI (askedOf ρ 0 + askedOf ρ 1 + askedOf ρ 2)) _ _ dX1_allDemands_24 hw rfl rfl ⟨congrArg nI (by simp only [allDem]), rfl⟩
set_option maxHeartbeats 4000000 in
set_option maxRecDepth 20000 in
theorem k_X1_allCosts (l : Launch) (G : va_G) (Y : Nat → Nat) (h : Nat) (ρ : Nat → Nat) (γ : Nat → Nat → Nat) (hI : Inv ρ) : CtI l yX1_allCosts cX1_allCosts 3 .int 2 44 [.ref h] [aucW Y h ρ γ] (fun r sg => r = nI (allCost ρ) ∧ sg = [aucW Y h ρ γ]) G Y := by
  refine x_ofI (by decide) (Nat.le_of_ble_eq_true rfl) (fun p e s m args below meth c A ls Q M hK hZ hw hl hret => ?_)
  obtain ⟨hx, hb, -⟩ := id M
  have hl : lv_has ls 3 [(0, .ref h)] := hl
  have := hI.n6
  have := hI.over
  have := hI.keep
  have := hI.stepp
  refine lv_iconst (v := (nI 0)) hx hb dX1_allCosts_0 (by decide) ?_
  refine lv_istore_n (lv' := [(1, .int (nI 0)), (0, .ref h)]) hx hb dX1_allCosts_1 rfl hl (by decide) rfl (fun ls hl => ?_)
  refine lv_iconst (v := (nI 0)) hx hb dX1_allCosts_2 (by decide) ?_
  refine lv_istore_n (lv' := [(2, .int (nI 0)), (1, .int (nI 0)), (0, .ref h)]) hx hb dX1_allCosts_3 rfl hl (by decide) rfl (fun ls hl => ?_)
  refine lv_iload_n hx hb dX1_allCosts_4 rfl (lv_at hl 0 rfl) ?_
  refine lv_iconst (v := (nI 3)) hx hb dX1_allCosts_5 (by decide) ?_
  refine x_cge M (tgt := 30) (by decide) (by decide) dX1_allCosts_6 (by decide) (fun c_1 => absurd c_1 (by decide)) (fun c_1 => ?_)
  refine lv_iload_n hx hb dX1_allCosts_9 rfl (lv_at hl 1 rfl) ?_
  refine lv_aload_n hx hb dX1_allCosts_10 rfl (lv_at hl 2 rfl) ?_
  refine lv_iload_n hx hb dX1_allCosts_11 rfl (lv_at hl 0 rfl) ?_
  refine x_cVI (As := [.int (nI 0)]) (k_X1_askedOf l G Y h 0 ρ γ (hI) (by omega)) cw_X1_76 [0] 0 0 M hK hZ hw hl.1 rfl (by decide) rfl rfl rfl ⟨by decide, by decide⟩ ⟨Nat.zero_le _, Nat.zero_le _⟩ rfl rfl (Nat.le_of_ble_eq_true rfl) dX1_allCosts_12 (fun r sg h_2 H locs hw => ?_)
  obtain ⟨rfl, rfl⟩ := h_2
  have hw : xW G A s.heap [aucW Y h ρ γ] H locs := hw
  have q_3 : askedOf ρ 0 ≤ 54 := askedOf_le hI (by omega)
  refine lv_aload_n hx hb dX1_allCosts_15 rfl (lv_at hl 2 rfl) ?_
  refine x_get M hK hw 0 0 rfl rfl ff_X1_18 rfl dX1_allCosts_16 ?_
  refine lv_iload_n hx hb dX1_allCosts_19 rfl (lv_at hl 0 rfl) ?_
  refine x_iald M hK hw 0 3 rfl rfl (by decide) (by decide) dX1_allCosts_20 ?_
  refine x_topN (n := ρ 11) rfl ?_
  have q_4 : 1 ≤ ρ 11 := (hI.pri (q := 11) (k := 0) (by decide) rfl).1
  have q_5 : ρ 11 ≤ 99999 := (hI.pri (q := 11) (k := 0) (by decide) rfl).2
  refine x_imul M (n := (askedOf ρ 0) * (ρ 11)) dX1_allCosts_21 rfl ?_
  have q_6 : (askedOf ρ 0) * (ρ 11) ≤ 5399946 := Nat.le_trans (Nat.mul_le_mul (show askedOf ρ 0 ≤ 54 by omega) (show ρ 11 ≤ 99999 by omega)) (by decide)
  refine x_iadd M (n := ((askedOf ρ 0) * (ρ 11))) dX1_allCosts_22 (by omega) ?_
  refine lv_istore_n (lv' := [(1, .int (nI ((askedOf ρ 0) * (ρ 11)))), (2, .int (nI 0)), (0, .ref h)]) hx hb dX1_allCosts_23 rfl hl (by decide) rfl (fun ls hl => ?_)
  refine lv_iinc (v := (nI 1)) (lv' := [(2, .int (nI 1)), (1, .int (nI ((askedOf ρ 0) * (ρ 11)))), (0, .ref h)]) hx hb dX1_allCosts_24 hl (k := 1) rfl (by decide) (by decide) rfl (fun ls hl => ?_)
  refine lv_goto (tgt := 4) hx hb dX1_allCosts_27 (by decide) ?_
  refine lv_iload_n hx hb dX1_allCosts_4 rfl (lv_at hl 0 rfl) ?_
  refine lv_iconst (v := (nI 3)) hx hb dX1_allCosts_5 (by decide) ?_
  refine x_cge M (tgt := 30) (by decide) (by decide) dX1_allCosts_6 (by decide) (fun c_7 => absurd c_7 (by decide)) (fun c_7 => ?_)
  refine lv_iload_n hx hb dX1_allCosts_9 rfl (lv_at hl 1 rfl) ?_
  refine lv_aload_n hx hb dX1_allCosts_10 rfl (lv_at hl 2 rfl) ?_
  refine lv_iload_n hx hb dX1_allCosts_11 rfl (lv_at hl 0 rfl) ?_
  refine x_cVI (As := [.int (nI 1)]) (k_X1_askedOf l G Y h 1 ρ γ (hI) (by omega)) cw_X1_76 [0] 0 0 M hK hZ hw hl.1 rfl (by decide) rfl rfl rfl ⟨by decide, by decide⟩ ⟨Nat.zero_le _, Nat.zero_le _⟩ rfl rfl (Nat.le_of_ble_eq_true rfl) dX1_allCosts_12 (fun r sg h_8 H locs hw => ?_)
  obtain ⟨rfl, rfl⟩ := h_8
  have hw : xW G A s.heap [aucW Y h ρ γ] H locs := hw
  have q_9 : askedOf ρ 1 ≤ 54 := askedOf_le hI (by omega)
  refine lv_aload_n hx hb dX1_allCosts_15 rfl (lv_at hl 2 rfl) ?_
  refine x_get M hK hw 0 0 rfl rfl ff_X1_18 rfl dX1_allCosts_16 ?_
  refine lv_iload_n hx hb dX1_allCosts_19 rfl (lv_at hl 0 rfl) ?_
  refine x_iald M hK hw 0 3 rfl rfl (by decide) (by decide) dX1_allCosts_20 ?_
  refine x_topN (n := ρ 12) rfl ?_
  have q_10 : 1 ≤ ρ 12 := (hI.pri (q := 12) (k := 1) (by decide) rfl).1
  have q_11 : ρ 12 ≤ 99999 := (hI.pri (q := 12) (k := 1) (by decide) rfl).2
  refine x_imul M (n := (askedOf ρ 1) * (ρ 12)) dX1_allCosts_21 rfl ?_
  have q_12 : (askedOf ρ 1) * (ρ 12) ≤ 5399946 := Nat.le_trans (Nat.mul_le_mul (show askedOf ρ 1 ≤ 54 by omega) (show ρ 12 ≤ 99999 by omega)) (by decide)
  refine x_iadd M (n := ((askedOf ρ 0) * (ρ 11)) + ((askedOf ρ 1) * (ρ 12))) dX1_allCosts_22 rfl ?_
  refine lv_istore_n (lv' := [(1, .int (nI (((askedOf ρ 0) * (ρ 11)) + ((askedOf ρ 1) * (ρ 12))))), (2, .int (nI 1)), (0, .ref h)]) hx hb dX1_allCosts_23 rfl hl (by decide) rfl (fun ls hl => ?_)
  refine lv_iinc (v := (nI 2)) (lv' := [(2, .int (nI 2)), (1, .int (nI (((askedOf ρ 0) * (ρ 11)) + ((askedOf ρ 1) * (ρ 12))))), (0, .ref h)]) hx hb dX1_allCosts_24 hl (k := 1) rfl (by decide) (by decide) rfl (fun ls hl => ?_)
  refine lv_goto (tgt := 4) hx hb dX1_allCosts_27 (by decide) ?_
  refine lv_iload_n hx hb dX1_allCosts_4 rfl (lv_at hl 0 rfl) ?_
  refine lv_iconst (v := (nI 3)) hx hb dX1_allCosts_5 (by decide) ?_
  refine x_cge M (tgt := 30) (by decide) (by decide) dX1_allCosts_6 (by decide) (fun c_13 => absurd c_13 (by decide)) (fun c_13 => ?_)
  refine lv_iload_n hx hb dX1_allCosts_9 rfl (lv_at hl 1 rfl) ?_
  refine lv_aload_n hx hb dX1_allCosts_10 rfl (lv_at hl 2 rfl) ?_
  refine lv_iload_n hx hb dX1_allCosts_11 rfl (lv_at hl 0 rfl) ?_
  refine x_cVI (As := [.int (nI 2)]) (k_X1_askedOf l G Y h 2 ρ γ (hI) (by omega)) cw_X1_76 [0] 0 0 M hK hZ hw hl.1 rfl (by decide) rfl rfl rfl ⟨by decide, by decide⟩ ⟨Nat.zero_le _, Nat.zero_le _⟩ rfl rfl (Nat.le_of_ble_eq_true rfl) dX1_allCosts_12 (fun r sg h_14 H locs hw => ?_)
  obtain ⟨rfl, rfl⟩ := h_14
  have hw : xW G A s.heap [aucW Y h ρ γ] H locs := hw
  have q_15 : askedOf ρ 2 ≤ 54 := askedOf_le hI (by omega)
  refine lv_aload_n hx hb dX1_allCosts_15 rfl (lv_at hl 2 rfl) ?_
  refine x_get M hK hw 0 0 rfl rfl ff_X1_18 rfl dX1_allCosts_16 ?_
  refine lv_iload_n hx hb dX1_allCosts_19 rfl (lv_at hl 0 rfl) ?_
  refine x_iald M hK hw 0 3 rfl rfl (by decide) (by decide) dX1_allCosts_20 ?_
  refine x_topN (n := ρ 13) rfl ?_
  have q_16 : 1 ≤ ρ 13 := (hI.pri (q := 13) (k := 2) (by decide) rfl).1
  have q_17 : ρ 13 ≤ 99999 := (hI.pri (q := 13) (k := 2) (by decide) rfl).2
  refine x_imul M (n := (askedOf ρ 2) * (ρ 13)) dX1_allCosts_21 rfl ?_
  have q_18 : (askedOf ρ 2) * (ρ 13) ≤ 5399946 := Nat.le_trans (Nat.mul_le_mul (show askedOf ρ 2 ≤ 54 by omega) (show ρ 13 ≤ 99999 by omega)) (by decide)
  refine x_iadd M (n := ((askedOf ρ 0) * (ρ 11)) + ((askedOf ρ 1) * (ρ 12)) + ((askedOf ρ 2) * (ρ 13))) dX1_allCosts_22 rfl ?_
  refine lv_istore_n (lv' := [(1, .int (nI (((askedOf ρ 0) * (ρ 11)) + ((askedOf ρ 1) * (ρ 12)) + ((askedOf ρ 2) * (ρ 13))))), (2, .int (nI 2)), (0, .ref h)]) hx hb dX1_allCosts_23 rfl hl (by decide) rfl (fun ls hl => ?_)
  refine lv_iinc (v := (nI 3)) (lv' := [(2, .int (nI 3)), (1, .int (nI (((askedOf ρ 0) * (ρ 11)) + ((askedOf ρ 1) * (ρ 12)) + ((askedOf ρ 2) * (ρ 13))))), (0, .ref h)]) hx hb dX1_allCosts_24 hl (k := 1) rfl (by decide) (by decide) rfl (fun ls hl => ?_)
  refine lv_goto (tgt := 4) hx hb dX1_allCosts_27 (by decide) ?_
  refine lv_iload_n hx hb dX1_allCosts_4 rfl (lv_at hl 0 rfl) ?_
  refine lv_iconst (v := (nI 3)) hx hb dX1_allCosts_5 (by decide) ?_
  refine x_cge M (tgt := 30) (by decide) (by decide) dX1_allCosts_6 (by decide) (fun c_19 => ?_) (fun c_19 => absurd c_19 (by decide))
  refine lv_iload_n hx hb dX1_allCosts_30 rfl (lv_at hl 1 rfl) ?_
  exact hret _ _ _ (nI (((askedOf ρ 0) * (ρ 11)) + ((askedOf ρ 1) * (ρ 12)) + ((askedOf ρ 2) * (ρ 13)))) _ _ dX1_allCosts_31 hw rfl rfl ⟨congrArg nI (by simp only [allCost]), rfl⟩
set_option maxHeartbeats 4000000 in
set_option maxRecDepth 20000 in
theorem k_X1_allPacks (l : Launch) (G : va_G) (Y : Nat → Nat) (h : Nat) (ρ : Nat → Nat) (γ : Nat → Nat → Nat) (hI : Inv ρ) : CtI l yX1_allPacks cX1_allPacks 3 .int 0 0 [.ref h] [aucW Y h ρ γ] (fun r sg => r = nI (allPck ρ) ∧ sg = [aucW Y h ρ γ]) G Y := by
  refine x_ofI (by decide) (Nat.le_of_ble_eq_true rfl) (fun p e s m args below meth c A ls Q M hK hZ hw hl hret => ?_)
  obtain ⟨hx, hb, -⟩ := id M
  have hl : lv_has ls 3 [(0, .ref h)] := hl
  have := hI.n6
  have := hI.over
  have := hI.keep
  have := hI.stepp
  refine lv_iconst (v := (nI 0)) hx hb dX1_allPacks_0 (by decide) ?_
  refine lv_istore_n (lv' := [(1, .int (nI 0)), (0, .ref h)]) hx hb dX1_allPacks_1 rfl hl (by decide) rfl (fun ls hl => ?_)
  refine lv_iconst (v := (nI 0)) hx hb dX1_allPacks_2 (by decide) ?_
  refine lv_istore_n (lv' := [(2, .int (nI 0)), (1, .int (nI 0)), (0, .ref h)]) hx hb dX1_allPacks_3 rfl hl (by decide) rfl (fun ls hl => ?_)
  have L4 : ∀ (fu : Nat) (i : Nat) (x : Nat), (ρ 4 - i < fu) → (i ≤ ρ 4) → (x = sumB (fun b => ρ (22 + 21 * b)) i) → ∀ (H : Heap) (locs : List Loc), xW G A s.heap [aucW Y h ρ γ] H locs → ∀ (ls : Array Slot), lv_has ls 3 [(0, .ref h), (1, .int (nI x)), (2, .int (nI i))] → W p l e (xRm 0 0) s m args below meth c H locs 0 0 Q (F0 m 4 ls []) := by
    intro fu
    induction fu with
    | zero => intro i x hm; exact absurd hm (Nat.not_lt_zero _)
    | succ fu ih4 =>
      intro i x hm hi hx2 H locs hw ls hl
      refine lv_iload_n hx hb dX1_allPacks_4 rfl (lv_at hl 2 rfl) ?_
      refine lv_aload_n hx hb dX1_allPacks_5 rfl (lv_at hl 0 rfl) ?_
      refine x_get M hK hw 0 0 rfl rfl ff_X1_45 rfl dX1_allPacks_6 ?_
      refine x_cge M (tgt := 27) (by omega) (by omega) dX1_allPacks_9 (by decide) (fun c_1 => ?_) (fun c_1 => ?_)
      · refine lv_iload_n hx hb dX1_allPacks_27 rfl (lv_at hl 1 rfl) ?_
        exact hret _ _ _ (nI x) _ _ dX1_allPacks_28 hw rfl rfl ⟨by rw [hx2, show i = ρ 4 by omega]; rfl, rfl⟩
      refine lv_iload_n hx hb dX1_allPacks_12 rfl (lv_at hl 1 rfl) ?_
      refine lv_aload_n hx hb dX1_allPacks_13 rfl (lv_at hl 0 rfl) ?_
      refine x_get M hK hw 0 0 rfl rfl ff_X1_27 rfl dX1_allPacks_14 ?_
      refine lv_iload_n hx hb dX1_allPacks_17 rfl (lv_at hl 2 rfl) ?_
      refine x_iald M hK hw 0 6 rfl rfl (by omega) (by decide) dX1_allPacks_18 ?_
      refine x_topN (n := ρ (22 + 21 * i)) (congrArg nI (pck_at (j := i) (by omega) rfl (by omega))) ?_
      have q_2 : ρ (22 + 21 * i) ≤ 3 := hI.pck (j := i) (by omega) (by omega)
      refine x_iadd M (n := x + ρ (22 + 21 * i)) dX1_allPacks_19 rfl ?_
      refine lv_istore_n (lv' := [(1, .int (nI (x + ρ (22 + 21 * i)))), (0, .ref h), (2, .int (nI i))]) hx hb dX1_allPacks_20 rfl hl (by decide) rfl (fun ls hl => ?_)
      refine lv_iinc (v := (nI (1 + i))) (lv' := [(2, .int (nI (1 + i))), (1, .int (nI (x + ρ (22 + 21 * i)))), (0, .ref h)]) hx hb dX1_allPacks_21 hl (k := 2) rfl (by rw [show (1 : Int) = ((1 : Nat) : Int) from rfl, nI_inc]; exact congrArg nI (by omega)) (by decide) rfl (fun ls hl => ?_)
      refine lv_goto (tgt := 4) hx hb dX1_allPacks_24 (by decide) ?_
      exact ih4 (1 + i) (x + ρ (22 + 21 * i)) (by omega) (by omega) (by rw [sumB_1, ← hx2]) _ _ hw _ (lv_sub hl [2, 1, 0] rfl)
  exact L4 (ρ 4 - 0 + 1) 0 0 (Nat.lt_succ_self _) (by omega) (rfl) _ _ hw _ (lv_sub hl [2, 1, 0] rfl)
set_option maxHeartbeats 4000000 in
set_option maxRecDepth 20000 in
theorem k_X1_activity (l : Launch) (G : va_G) (Y : Nat → Nat) (h j : Nat) (ρ : Nat → Nat) (γ : Nat → Nat → Nat) (hI : Inv ρ) (hj : j < ρ 4) : CtI l yX1_activity cX1_activity 4 .int 1 21 [.ref h, .int (nI j)] [aucW Y h ρ γ] (fun r sg => r = nI (act ρ j) ∧ sg = [aucW Y h ρ γ]) G Y := by
  refine x_ofI (by decide) (Nat.le_of_ble_eq_true rfl) (fun p e s m args below meth c A ls Q M hK hZ hw hl hret => ?_)
  obtain ⟨hx, hb, -⟩ := id M
  have hl : lv_has ls 4 [(0, .ref h), (1, .int (nI j))] := hl
  have := hI.n6
  have := hI.over
  have := hI.keep
  have := hI.stepp
  refine lv_iconst (v := (nI 0)) hx hb dX1_activity_0 (by decide) ?_
  refine lv_istore_n (lv' := [(2, .int (nI 0)), (0, .ref h), (1, .int (nI j))]) hx hb dX1_activity_1 rfl hl (by decide) rfl (fun ls hl => ?_)
  refine lv_iconst (v := (nI 0)) hx hb dX1_activity_2 (by decide) ?_
  refine lv_istore_n (lv' := [(3, .int (nI 0)), (2, .int (nI 0)), (0, .ref h), (1, .int (nI j))]) hx hb dX1_activity_3 rfl hl (by decide) rfl (fun ls hl => ?_)
  refine lv_iload_n hx hb dX1_activity_4 rfl (lv_at hl 0 rfl) ?_
  refine lv_iconst (v := (nI 3)) hx hb dX1_activity_5 (by decide) ?_
  refine x_cge M (tgt := 35) (by decide) (by decide) dX1_activity_6 (by decide) (fun c_1 => absurd c_1 (by decide)) (fun c_1 => ?_)
  refine lv_iload_n hx hb dX1_activity_9 rfl (lv_at hl 1 rfl) ?_
  refine lv_aload_n hx hb dX1_activity_10 rfl (lv_at hl 2 rfl) ?_
  refine x_get M hK hw 0 0 rfl rfl ff_X1_15 rfl dX1_activity_11 ?_
  refine lv_iload_n hx hb dX1_activity_14 rfl (lv_at hl 0 rfl) ?_
  refine x_iald M hK hw 0 2 rfl rfl (by decide) (by decide) dX1_activity_15 ?_
  refine x_topN (n := ρ 8) rfl ?_
  have q_2 : 1 ≤ ρ 8 := (hI.pts (q := 8) (k := 0) (by decide) rfl).1
  have q_3 : ρ 8 ≤ 9 := (hI.pts (q := 8) (k := 0) (by decide) rfl).2
  refine lv_aload_n hx hb dX1_activity_16 rfl (lv_at hl 2 rfl) ?_
  refine x_get M hK hw 0 0 rfl rfl ff_X1_33 rfl dX1_activity_17 ?_
  refine lv_iload_n hx hb dX1_activity_20 rfl (lv_at hl 3 rfl) ?_
  refine lv_iload_n hx hb dX1_activity_21 rfl (lv_at hl 0 rfl) ?_
  refine x_cNI (As := [.int (nI j), .int (nI 0)]) (k_X5_cell l G Y j 0) cw_X1_72 [] M hK hZ hw hl.1 rfl (by decide) ⟨by decide, by decide⟩ ⟨Nat.zero_le _, Nat.zero_le _⟩ rfl rfl (Nat.le_of_ble_eq_true rfl) dX1_activity_22 (fun r sg h_4 H locs hw => ?_)
  obtain ⟨rfl, rfl⟩ := h_4
  have hw : xW G A s.heap [aucW Y h ρ γ] H locs := hw
  refine x_topN (n := 3 * j) (congrArg nI (by omega)) ?_
  refine x_iald M hK hw 0 8 rfl rfl (by omega) (by decide) dX1_activity_25 ?_
  refine x_topN (n := ρ (19 + 21 * j)) (congrArg nI (dem_at (j := j) (k := 0) (by omega) (by decide) (by omega) (by omega))) ?_
  have q_5 : ρ (19 + 21 * j) ≤ 9 := hI.dem (j := j) (by omega) (k := 0) (by decide) (by omega)
  refine x_imul M (n := (ρ 8) * (ρ (19 + 21 * j))) dX1_activity_26 rfl ?_
  have q_6 : (ρ 8) * (ρ (19 + 21 * j)) ≤ 81 := Nat.le_trans (Nat.mul_le_mul (show ρ 8 ≤ 9 by omega) (show ρ (19 + 21 * j) ≤ 9 by omega)) (by decide)
  refine x_iadd M (n := ((ρ 8) * (ρ (19 + 21 * j)))) dX1_activity_27 (by omega) ?_
  refine lv_istore_n (lv' := [(2, .int (nI ((ρ 8) * (ρ (19 + 21 * j))))), (3, .int (nI 0)), (0, .ref h), (1, .int (nI j))]) hx hb dX1_activity_28 rfl hl (by decide) rfl (fun ls hl => ?_)
  refine lv_iinc (v := (nI 1)) (lv' := [(3, .int (nI 1)), (2, .int (nI ((ρ 8) * (ρ (19 + 21 * j))))), (0, .ref h), (1, .int (nI j))]) hx hb dX1_activity_29 hl (k := 1) rfl (by decide) (by decide) rfl (fun ls hl => ?_)
  refine lv_goto (tgt := 4) hx hb dX1_activity_32 (by decide) ?_
  refine lv_iload_n hx hb dX1_activity_4 rfl (lv_at hl 0 rfl) ?_
  refine lv_iconst (v := (nI 3)) hx hb dX1_activity_5 (by decide) ?_
  refine x_cge M (tgt := 35) (by decide) (by decide) dX1_activity_6 (by decide) (fun c_7 => absurd c_7 (by decide)) (fun c_7 => ?_)
  refine lv_iload_n hx hb dX1_activity_9 rfl (lv_at hl 1 rfl) ?_
  refine lv_aload_n hx hb dX1_activity_10 rfl (lv_at hl 2 rfl) ?_
  refine x_get M hK hw 0 0 rfl rfl ff_X1_15 rfl dX1_activity_11 ?_
  refine lv_iload_n hx hb dX1_activity_14 rfl (lv_at hl 0 rfl) ?_
  refine x_iald M hK hw 0 2 rfl rfl (by decide) (by decide) dX1_activity_15 ?_
  refine x_topN (n := ρ 9) rfl ?_
  have q_8 : 1 ≤ ρ 9 := (hI.pts (q := 9) (k := 1) (by decide) rfl).1
  have q_9 : ρ 9 ≤ 9 := (hI.pts (q := 9) (k := 1) (by decide) rfl).2
  refine lv_aload_n hx hb dX1_activity_16 rfl (lv_at hl 2 rfl) ?_
  refine x_get M hK hw 0 0 rfl rfl ff_X1_33 rfl dX1_activity_17 ?_
  refine lv_iload_n hx hb dX1_activity_20 rfl (lv_at hl 3 rfl) ?_
  refine lv_iload_n hx hb dX1_activity_21 rfl (lv_at hl 0 rfl) ?_
  refine x_cNI (As := [.int (nI j), .int (nI 1)]) (k_X5_cell l G Y j 1) cw_X1_72 [] M hK hZ hw hl.1 rfl (by decide) ⟨by decide, by decide⟩ ⟨Nat.zero_le _, Nat.zero_le _⟩ rfl rfl (Nat.le_of_ble_eq_true rfl) dX1_activity_22 (fun r sg h_10 H locs hw => ?_)
  obtain ⟨rfl, rfl⟩ := h_10
  have hw : xW G A s.heap [aucW Y h ρ γ] H locs := hw
  refine x_topN (n := 1 + 3 * j) (congrArg nI (by omega)) ?_
  refine x_iald M hK hw 0 8 rfl rfl (by omega) (by decide) dX1_activity_25 ?_
  refine x_topN (n := ρ (20 + 21 * j)) (congrArg nI (dem_at (j := j) (k := 1) (by omega) (by decide) (by omega) (by omega))) ?_
  have q_11 : ρ (20 + 21 * j) ≤ 9 := hI.dem (j := j) (by omega) (k := 1) (by decide) (by omega)
  refine x_imul M (n := (ρ 9) * (ρ (20 + 21 * j))) dX1_activity_26 rfl ?_
  have q_12 : (ρ 9) * (ρ (20 + 21 * j)) ≤ 81 := Nat.le_trans (Nat.mul_le_mul (show ρ 9 ≤ 9 by omega) (show ρ (20 + 21 * j) ≤ 9 by omega)) (by decide)
  refine x_iadd M (n := ((ρ 8) * (ρ (19 + 21 * j))) + ((ρ 9) * (ρ (20 + 21 * j)))) dX1_activity_27 rfl ?_
  refine lv_istore_n (lv' := [(2, .int (nI (((ρ 8) * (ρ (19 + 21 * j))) + ((ρ 9) * (ρ (20 + 21 * j)))))), (3, .int (nI 1)), (0, .ref h), (1, .int (nI j))]) hx hb dX1_activity_28 rfl hl (by decide) rfl (fun ls hl => ?_)
  refine lv_iinc (v := (nI 2)) (lv' := [(3, .int (nI 2)), (2, .int (nI (((ρ 8) * (ρ (19 + 21 * j))) + ((ρ 9) * (ρ (20 + 21 * j)))))), (0, .ref h), (1, .int (nI j))]) hx hb dX1_activity_29 hl (k := 1) rfl (by decide) (by decide) rfl (fun ls hl => ?_)
  refine lv_goto (tgt := 4) hx hb dX1_activity_32 (by decide) ?_
  refine lv_iload_n hx hb dX1_activity_4 rfl (lv_at hl 0 rfl) ?_
  refine lv_iconst (v := (nI 3)) hx hb dX1_activity_5 (by decide) ?_
  refine x_cge M (tgt := 35) (by decide) (by decide) dX1_activity_6 (by decide) (fun c_13 => absurd c_13 (by decide)) (fun c_13 => ?_)
  refine lv_iload_n hx hb dX1_activity_9 rfl (lv_at hl 1 rfl) ?_
  refine lv_aload_n hx hb dX1_activity_10 rfl (lv_at hl 2 rfl) ?_
  refine x_get M hK hw 0 0 rfl rfl ff_X1_15 rfl dX1_activity_11 ?_
  refine lv_iload_n hx hb dX1_activity_14 rfl (lv_at hl 0 rfl) ?_
  refine x_iald M hK hw 0 2 rfl rfl (by decide) (by decide) dX1_activity_15 ?_
  refine x_topN (n := ρ 10) rfl ?_
  have q_14 : 1 ≤ ρ 10 := (hI.pts (q := 10) (k := 2) (by decide) rfl).1
  have q_15 : ρ 10 ≤ 9 := (hI.pts (q := 10) (k := 2) (by decide) rfl).2
  refine lv_aload_n hx hb dX1_activity_16 rfl (lv_at hl 2 rfl) ?_
  refine x_get M hK hw 0 0 rfl rfl ff_X1_33 rfl dX1_activity_17 ?_
  refine lv_iload_n hx hb dX1_activity_20 rfl (lv_at hl 3 rfl) ?_
  refine lv_iload_n hx hb dX1_activity_21 rfl (lv_at hl 0 rfl) ?_
  refine x_cNI (As := [.int (nI j), .int (nI 2)]) (k_X5_cell l G Y j 2) cw_X1_72 [] M hK hZ hw hl.1 rfl (by decide) ⟨by decide, by decide⟩ ⟨Nat.zero_le _, Nat.zero_le _⟩ rfl rfl (Nat.le_of_ble_eq_true rfl) dX1_activity_22 (fun r sg h_16 H locs hw => ?_)
  obtain ⟨rfl, rfl⟩ := h_16
  have hw : xW G A s.heap [aucW Y h ρ γ] H locs := hw
  refine x_topN (n := 2 + 3 * j) (congrArg nI (by omega)) ?_
  refine x_iald M hK hw 0 8 rfl rfl (by omega) (by decide) dX1_activity_25 ?_
  refine x_topN (n := ρ (21 + 21 * j)) (congrArg nI (dem_at (j := j) (k := 2) (by omega) (by decide) (by omega) (by omega))) ?_
  have q_17 : ρ (21 + 21 * j) ≤ 9 := hI.dem (j := j) (by omega) (k := 2) (by decide) (by omega)
  refine x_imul M (n := (ρ 10) * (ρ (21 + 21 * j))) dX1_activity_26 rfl ?_
  have q_18 : (ρ 10) * (ρ (21 + 21 * j)) ≤ 81 := Nat.le_trans (Nat.mul_le_mul (show ρ 10 ≤ 9 by omega) (show ρ (21 + 21 * j) ≤ 9 by omega)) (by decide)
  refine x_iadd M (n := ((ρ 8) * (ρ (19 + 21 * j))) + ((ρ 9) * (ρ (20 + 21 * j))) + ((ρ 10) * (ρ (21 + 21 * j)))) dX1_activity_27 rfl ?_
  refine lv_istore_n (lv' := [(2, .int (nI (((ρ 8) * (ρ (19 + 21 * j))) + ((ρ 9) * (ρ (20 + 21 * j))) + ((ρ 10) * (ρ (21 + 21 * j)))))), (3, .int (nI 2)), (0, .ref h), (1, .int (nI j))]) hx hb dX1_activity_28 rfl hl (by decide) rfl (fun ls hl => ?_)
  refine lv_iinc (v := (nI 3)) (lv' := [(3, .int (nI 3)), (2, .int (nI (((ρ 8) * (ρ (19 + 21 * j))) + ((ρ 9) * (ρ (20 + 21 * j))) + ((ρ 10) * (ρ (21 + 21 * j)))))), (0, .ref h), (1, .int (nI j))]) hx hb dX1_activity_29 hl (k := 1) rfl (by decide) (by decide) rfl (fun ls hl => ?_)
  refine lv_goto (tgt := 4) hx hb dX1_activity_32 (by decide) ?_
  refine lv_iload_n hx hb dX1_activity_4 rfl (lv_at hl 0 rfl) ?_
  refine lv_iconst (v := (nI 3)) hx hb dX1_activity_5 (by decide) ?_
  refine x_cge M (tgt := 35) (by decide) (by decide) dX1_activity_6 (by decide) (fun c_19 => ?_) (fun c_19 => absurd c_19 (by decide))
  refine lv_iload_n hx hb dX1_activity_35 rfl (lv_at hl 1 rfl) ?_
  exact hret _ _ _ (nI (((ρ 8) * (ρ (19 + 21 * j))) + ((ρ 9) * (ρ (20 + 21 * j))) + ((ρ 10) * (ρ (21 + 21 * j))))) _ _ dX1_activity_36 hw rfl rfl ⟨congrArg nI (by simp only [act]), rfl⟩
set_option maxHeartbeats 4000000 in
set_option maxRecDepth 20000 in
theorem k_X1_margin (l : Launch) (G : va_G) (Y : Nat → Nat) (h j k : Nat) (ρ : Nat → Nat) (γ : Nat → Nat → Nat) (hI : Inv ρ) (hj : j < ρ 4) (hk : k < 3) : CtI l yX1_margin cX1_margin 3 .int 1 21 [.ref h, .int (nI j), .int (nI k)] [aucW Y h ρ γ] (fun r sg => r = mgn ρ j k ∧ sg = [aucW Y h ρ γ]) G Y := by
  refine x_ofI (by decide) (Nat.le_of_ble_eq_true rfl) (fun p e s m args below meth c A ls Q M hK hZ hw hl hret => ?_)
  obtain ⟨hx, hb, -⟩ := id M
  have hl : lv_has ls 3 [(0, .ref h), (1, .int (nI j)), (2, .int (nI k))] := hl
  have := hI.n6
  have := hI.over
  have := hI.keep
  have := hI.stepp
  refine lv_aload_n hx hb dX1_margin_0 rfl (lv_at hl 0 rfl) ?_
  refine x_get M hK hw 0 0 rfl rfl ff_X1_30 rfl dX1_margin_1 ?_
  refine lv_iload_n hx hb dX1_margin_4 rfl (lv_at hl 1 rfl) ?_
  refine lv_iload_n hx hb dX1_margin_5 rfl (lv_at hl 2 rfl) ?_
  refine x_cNI (As := [.int (nI j), .int (nI k)]) (k_X5_cell l G Y j k) cw_X1_72 [] M hK hZ hw hl.1 rfl (by decide) ⟨by decide, by decide⟩ ⟨Nat.zero_le _, Nat.zero_le _⟩ rfl rfl (Nat.le_of_ble_eq_true rfl) dX1_margin_6 (fun r sg h_1 H locs hw => ?_)
  obtain ⟨rfl, rfl⟩ := h_1
  have hw : xW G A s.heap [aucW Y h ρ γ] H locs := hw
  refine x_iald M hK hw 0 7 rfl rfl (by omega) (by decide) dX1_margin_9 ?_
  refine x_topN (n := ρ (16 + 21 * j + k)) (congrArg nI (val_at (j := j) (k := k) (by omega) (by omega) (by omega) (by omega))) ?_
  have q_2 : ρ (16 + 21 * j + k) ≤ 99999 := hI.val (j := j) (by omega) (k := k) (by omega) (by omega)
  refine lv_aload_n hx hb dX1_margin_10 rfl (lv_at hl 0 rfl) ?_
  refine x_get M hK hw 0 0 rfl rfl ff_X1_18 rfl dX1_margin_11 ?_
  refine lv_iload_n hx hb dX1_margin_14 rfl (lv_at hl 2 rfl) ?_
  refine x_iald M hK hw 0 3 rfl rfl (by omega) (by decide) dX1_margin_15 ?_
  refine x_topN (n := ρ (11 + k)) (congrArg (fun q => nI (ρ q)) (by omega)) ?_
  have q_3 : 1 ≤ ρ (11 + k) := (hI.pri (k := k) (by omega) rfl).1
  have q_4 : ρ (11 + k) ≤ 99999 := (hI.pri (k := k) (by omega) rfl).2
  refine lv_isub hx hb dX1_margin_16 ?_
  exact hret _ _ _ ((nI (ρ (16 + 21 * j + k))) - (nI (ρ (11 + k)))) _ _ dX1_margin_17 hw rfl rfl ⟨rfl, rfl⟩
set_option maxHeartbeats 4000000 in
set_option maxRecDepth 20000 in
theorem k_X1_profit (l : Launch) (G : va_G) (Y : Nat → Nat) (h j : Nat) (ρ : Nat → Nat) (γ : Nat → Nat → Nat) (hI : Inv ρ) (hj : j < ρ 4) : CtI l yX1_profit cX1_profit 4 .int 2 43 [.ref h, .int (nI j)] [aucW Y h ρ γ] (fun r sg => r = prof ρ j ∧ sg = [aucW Y h ρ γ]) G Y := by
  refine x_ofI (by decide) (Nat.le_of_ble_eq_true rfl) (fun p e s m args below meth c A ls Q M hK hZ hw hl hret => ?_)
  obtain ⟨hx, hb, -⟩ := id M
  have hl : lv_has ls 4 [(0, .ref h), (1, .int (nI j))] := hl
  have := hI.n6
  have := hI.over
  have := hI.keep
  have := hI.stepp
  refine lv_iconst (v := (nI 0)) hx hb dX1_profit_0 (by decide) ?_
  refine lv_istore_n (lv' := [(2, .int (nI 0)), (0, .ref h), (1, .int (nI j))]) hx hb dX1_profit_1 rfl hl (by decide) rfl (fun ls hl => ?_)
  refine lv_iconst (v := (nI 0)) hx hb dX1_profit_2 (by decide) ?_
  refine lv_istore_n (lv' := [(3, .int (nI 0)), (2, .int (nI 0)), (0, .ref h), (1, .int (nI j))]) hx hb dX1_profit_3 rfl hl (by decide) rfl (fun ls hl => ?_)
  refine lv_iload_n hx hb dX1_profit_4 rfl (lv_at hl 0 rfl) ?_
  refine lv_iconst (v := (nI 3)) hx hb dX1_profit_5 (by decide) ?_
  refine x_cge M (tgt := 35) (by decide) (by decide) dX1_profit_6 (by decide) (fun c_1 => absurd c_1 (by decide)) (fun c_1 => ?_)
  refine lv_iload_n hx hb dX1_profit_9 rfl (lv_at hl 1 rfl) ?_
  refine lv_aload_n hx hb dX1_profit_10 rfl (lv_at hl 2 rfl) ?_
  refine x_get M hK hw 0 0 rfl rfl ff_X1_33 rfl dX1_profit_11 ?_
  refine lv_iload_n hx hb dX1_profit_14 rfl (lv_at hl 3 rfl) ?_
  refine lv_iload_n hx hb dX1_profit_15 rfl (lv_at hl 0 rfl) ?_
  refine x_cNI (As := [.int (nI j), .int (nI 0)]) (k_X5_cell l G Y j 0) cw_X1_72 [] M hK hZ hw hl.1 rfl (by decide) ⟨by decide, by decide⟩ ⟨Nat.zero_le _, Nat.zero_le _⟩ rfl rfl (Nat.le_of_ble_eq_true rfl) dX1_profit_16 (fun r sg h_2 H locs hw => ?_)
  obtain ⟨rfl, rfl⟩ := h_2
  have hw : xW G A s.heap [aucW Y h ρ γ] H locs := hw
  refine x_topN (n := 3 * j) (congrArg nI (by omega)) ?_
  refine x_iald M hK hw 0 8 rfl rfl (by omega) (by decide) dX1_profit_19 ?_
  refine x_topN (n := ρ (19 + 21 * j)) (congrArg nI (dem_at (j := j) (k := 0) (by omega) (by decide) (by omega) (by omega))) ?_
  have q_3 : ρ (19 + 21 * j) ≤ 9 := hI.dem (j := j) (by omega) (k := 0) (by decide) (by omega)
  refine lv_aload_n hx hb dX1_profit_20 rfl (lv_at hl 2 rfl) ?_
  refine lv_iload_n hx hb dX1_profit_21 rfl (lv_at hl 3 rfl) ?_
  refine lv_iload_n hx hb dX1_profit_22 rfl (lv_at hl 0 rfl) ?_
  refine x_cVI (As := [.int (nI j), .int (nI 0)]) (k_X1_margin l G Y h j 0 ρ γ (hI) (by omega) (by omega)) cw_X1_80 [0] 0 0 M hK hZ hw hl.1 rfl (by decide) rfl rfl rfl ⟨by decide, by decide⟩ ⟨Nat.zero_le _, Nat.zero_le _⟩ rfl rfl (Nat.le_of_ble_eq_true rfl) dX1_profit_23 (fun r sg h_4 H locs hw => ?_)
  obtain ⟨rfl, rfl⟩ := h_4
  have hw : xW G A s.heap [aucW Y h ρ γ] H locs := hw
  refine lv_imul hx hb dX1_profit_26 ?_
  refine lv_iadd hx hb dX1_profit_27 ?_
  refine lv_istore_n (lv' := [(2, .int ((nI 0) + ((nI (ρ (19 + 21 * j))) * (mgn ρ j 0)))), (3, .int (nI 0)), (0, .ref h), (1, .int (nI j))]) hx hb dX1_profit_28 rfl hl (by decide) rfl (fun ls hl => ?_)
  refine lv_iinc (v := (nI 1)) (lv' := [(3, .int (nI 1)), (2, .int ((nI 0) + ((nI (ρ (19 + 21 * j))) * (mgn ρ j 0)))), (0, .ref h), (1, .int (nI j))]) hx hb dX1_profit_29 hl (k := 1) rfl (by decide) (by decide) rfl (fun ls hl => ?_)
  refine lv_goto (tgt := 4) hx hb dX1_profit_32 (by decide) ?_
  refine lv_iload_n hx hb dX1_profit_4 rfl (lv_at hl 0 rfl) ?_
  refine lv_iconst (v := (nI 3)) hx hb dX1_profit_5 (by decide) ?_
  refine x_cge M (tgt := 35) (by decide) (by decide) dX1_profit_6 (by decide) (fun c_5 => absurd c_5 (by decide)) (fun c_5 => ?_)
  refine lv_iload_n hx hb dX1_profit_9 rfl (lv_at hl 1 rfl) ?_
  refine lv_aload_n hx hb dX1_profit_10 rfl (lv_at hl 2 rfl) ?_
  refine x_get M hK hw 0 0 rfl rfl ff_X1_33 rfl dX1_profit_11 ?_
  refine lv_iload_n hx hb dX1_profit_14 rfl (lv_at hl 3 rfl) ?_
  refine lv_iload_n hx hb dX1_profit_15 rfl (lv_at hl 0 rfl) ?_
  refine x_cNI (As := [.int (nI j), .int (nI 1)]) (k_X5_cell l G Y j 1) cw_X1_72 [] M hK hZ hw hl.1 rfl (by decide) ⟨by decide, by decide⟩ ⟨Nat.zero_le _, Nat.zero_le _⟩ rfl rfl (Nat.le_of_ble_eq_true rfl) dX1_profit_16 (fun r sg h_6 H locs hw => ?_)
  obtain ⟨rfl, rfl⟩ := h_6
  have hw : xW G A s.heap [aucW Y h ρ γ] H locs := hw
  refine x_topN (n := 1 + 3 * j) (congrArg nI (by omega)) ?_
  refine x_iald M hK hw 0 8 rfl rfl (by omega) (by decide) dX1_profit_19 ?_
  refine x_topN (n := ρ (20 + 21 * j)) (congrArg nI (dem_at (j := j) (k := 1) (by omega) (by decide) (by omega) (by omega))) ?_
  have q_7 : ρ (20 + 21 * j) ≤ 9 := hI.dem (j := j) (by omega) (k := 1) (by decide) (by omega)
  refine lv_aload_n hx hb dX1_profit_20 rfl (lv_at hl 2 rfl) ?_
  refine lv_iload_n hx hb dX1_profit_21 rfl (lv_at hl 3 rfl) ?_
  refine lv_iload_n hx hb dX1_profit_22 rfl (lv_at hl 0 rfl) ?_
  refine x_cVI (As := [.int (nI j), .int (nI 1)]) (k_X1_margin l G Y h j 1 ρ γ (hI) (by omega) (by omega)) cw_X1_80 [0] 0 0 M hK hZ hw hl.1 rfl (by decide) rfl rfl rfl ⟨by decide, by decide⟩ ⟨Nat.zero_le _, Nat.zero_le _⟩ rfl rfl (Nat.le_of_ble_eq_true rfl) dX1_profit_23 (fun r sg h_8 H locs hw => ?_)
  obtain ⟨rfl, rfl⟩ := h_8
  have hw : xW G A s.heap [aucW Y h ρ γ] H locs := hw
  refine lv_imul hx hb dX1_profit_26 ?_
  refine lv_iadd hx hb dX1_profit_27 ?_
  refine lv_istore_n (lv' := [(2, .int (((nI 0) + ((nI (ρ (19 + 21 * j))) * (mgn ρ j 0))) + ((nI (ρ (20 + 21 * j))) * (mgn ρ j 1)))), (3, .int (nI 1)), (0, .ref h), (1, .int (nI j))]) hx hb dX1_profit_28 rfl hl (by decide) rfl (fun ls hl => ?_)
  refine lv_iinc (v := (nI 2)) (lv' := [(3, .int (nI 2)), (2, .int (((nI 0) + ((nI (ρ (19 + 21 * j))) * (mgn ρ j 0))) + ((nI (ρ (20 + 21 * j))) * (mgn ρ j 1)))), (0, .ref h), (1, .int (nI j))]) hx hb dX1_profit_29 hl (k := 1) rfl (by decide) (by decide) rfl (fun ls hl => ?_)
  refine lv_goto (tgt := 4) hx hb dX1_profit_32 (by decide) ?_
  refine lv_iload_n hx hb dX1_profit_4 rfl (lv_at hl 0 rfl) ?_
  refine lv_iconst (v := (nI 3)) hx hb dX1_profit_5 (by decide) ?_
  refine x_cge M (tgt := 35) (by decide) (by decide) dX1_profit_6 (by decide) (fun c_9 => absurd c_9 (by decide)) (fun c_9 => ?_)
  refine lv_iload_n hx hb dX1_profit_9 rfl (lv_at hl 1 rfl) ?_
  refine lv_aload_n hx hb dX1_profit_10 rfl (lv_at hl 2 rfl) ?_
  refine x_get M hK hw 0 0 rfl rfl ff_X1_33 rfl dX1_profit_11 ?_
  refine lv_iload_n hx hb dX1_profit_14 rfl (lv_at hl 3 rfl) ?_
  refine lv_iload_n hx hb dX1_profit_15 rfl (lv_at hl 0 rfl) ?_
  refine x_cNI (As := [.int (nI j), .int (nI 2)]) (k_X5_cell l G Y j 2) cw_X1_72 [] M hK hZ hw hl.1 rfl (by decide) ⟨by decide, by decide⟩ ⟨Nat.zero_le _, Nat.zero_le _⟩ rfl rfl (Nat.le_of_ble_eq_true rfl) dX1_profit_16 (fun r sg h_10 H locs hw => ?_)
  obtain ⟨rfl, rfl⟩ := h_10
  have hw : xW G A s.heap [aucW Y h ρ γ] H locs := hw
  refine x_topN (n := 2 + 3 * j) (congrArg nI (by omega)) ?_
  refine x_iald M hK hw 0 8 rfl rfl (by omega) (by decide) dX1_profit_19 ?_
  refine x_topN (n := ρ (21 + 21 * j)) (congrArg nI (dem_at (j := j) (k := 2) (by omega) (by decide) (by omega) (by omega))) ?_
  have q_11 : ρ (21 + 21 * j) ≤ 9 := hI.dem (j := j) (by omega) (k := 2) (by decide) (by omega)
  refine lv_aload_n hx hb dX1_profit_20 rfl (lv_at hl 2 rfl) ?_
  refine lv_iload_n hx hb dX1_profit_21 rfl (lv_at hl 3 rfl) ?_
  refine lv_iload_n hx hb dX1_profit_22 rfl (lv_at hl 0 rfl) ?_
  refine x_cVI (As := [.int (nI j), .int (nI 2)]) (k_X1_margin l G Y h j 2 ρ γ (hI) (by omega) (by omega)) cw_X1_80 [0] 0 0 M hK hZ hw hl.1 rfl (by decide) rfl rfl rfl ⟨by decide, by decide⟩ ⟨Nat.zero_le _, Nat.zero_le _⟩ rfl rfl (Nat.le_of_ble_eq_true rfl) dX1_profit_23 (fun r sg h_12 H locs hw => ?_)
  obtain ⟨rfl, rfl⟩ := h_12
  have hw : xW G A s.heap [aucW Y h ρ γ] H locs := hw
  refine lv_imul hx hb dX1_profit_26 ?_
  refine lv_iadd hx hb dX1_profit_27 ?_
  refine lv_istore_n (lv' := [(2, .int ((((nI 0) + ((nI (ρ (19 + 21 * j))) * (mgn ρ j 0))) + ((nI (ρ (20 + 21 * j))) * (mgn ρ j 1))) + ((nI (ρ (21 + 21 * j))) * (mgn ρ j 2)))), (3, .int (nI 2)), (0, .ref h), (1, .int (nI j))]) hx hb dX1_profit_28 rfl hl (by decide) rfl (fun ls hl => ?_)
  refine lv_iinc (v := (nI 3)) (lv' := [(3, .int (nI 3)), (2, .int ((((nI 0) + ((nI (ρ (19 + 21 * j))) * (mgn ρ j 0))) + ((nI (ρ (20 + 21 * j))) * (mgn ρ j 1))) + ((nI (ρ (21 + 21 * j))) * (mgn ρ j 2)))), (0, .ref h), (1, .int (nI j))]) hx hb dX1_profit_29 hl (k := 1) rfl (by decide) (by decide) rfl (fun ls hl => ?_)
  refine lv_goto (tgt := 4) hx hb dX1_profit_32 (by decide) ?_
  refine lv_iload_n hx hb dX1_profit_4 rfl (lv_at hl 0 rfl) ?_
  refine lv_iconst (v := (nI 3)) hx hb dX1_profit_5 (by decide) ?_
  refine x_cge M (tgt := 35) (by decide) (by decide) dX1_profit_6 (by decide) (fun c_13 => ?_) (fun c_13 => absurd c_13 (by decide))
  refine lv_iload_n hx hb dX1_profit_35 rfl (lv_at hl 1 rfl) ?_
  exact hret _ _ _ ((((nI 0) + ((nI (ρ (19 + 21 * j))) * (mgn ρ j 0))) + ((nI (ρ (20 + 21 * j))) * (mgn ρ j 1))) + ((nI (ρ (21 + 21 * j))) * (mgn ρ j 2))) _ _ dX1_profit_36 hw rfl rfl ⟨rfl, rfl⟩
set_option maxHeartbeats 4000000 in
set_option maxRecDepth 20000 in
theorem k_X1_mostLots (l : Launch) (G : va_G) (Y : Nat → Nat) (h j k : Nat) (ρ : Nat → Nat) (γ : Nat → Nat → Nat) (hI : Inv ρ) (hj : j < ρ 4) (hk : k < 3) : CtI l yX1_mostLots cX1_mostLots 3 .int 1 21 [.ref h, .int (nI j), .int (nI k)] [aucW Y h ρ γ] (fun r sg => r = nI (most ρ j k) ∧ sg = [aucW Y h ρ γ]) G Y := by
  refine x_ofI (by decide) (Nat.le_of_ble_eq_true rfl) (fun p e s m args below meth c A ls Q M hK hZ hw hl hret => ?_)
  obtain ⟨hx, hb, -⟩ := id M
  have hl : lv_has ls 3 [(0, .ref h), (1, .int (nI j)), (2, .int (nI k))] := hl
  have := hI.n6
  have := hI.over
  have := hI.keep
  have := hI.stepp
  refine lv_aload_n hx hb dX1_mostLots_0 rfl (lv_at hl 0 rfl) ?_
  refine x_get M hK hw 0 0 rfl rfl ff_X1_24 rfl dX1_mostLots_1 ?_
  refine lv_iload_n hx hb dX1_mostLots_4 rfl (lv_at hl 1 rfl) ?_
  refine x_iald M hK hw 0 5 rfl rfl (by omega) (by decide) dX1_mostLots_5 ?_
  refine x_topN (n := ρ (15 + 21 * j)) (congrArg nI (cap_at (j := j) (by omega) rfl (by omega))) ?_
  have q_1 : 1 ≤ ρ (15 + 21 * j) := (hI.cap (j := j) (by omega) (by omega)).1
  have q_2 : ρ (15 + 21 * j) ≤ 9 := (hI.cap (j := j) (by omega) (by omega)).2
  refine lv_aload_n hx hb dX1_mostLots_6 rfl (lv_at hl 0 rfl) ?_
  refine x_get M hK hw 0 0 rfl rfl ff_X1_9 rfl dX1_mostLots_7 ?_
  refine lv_iload_n hx hb dX1_mostLots_10 rfl (lv_at hl 2 rfl) ?_
  refine x_iald M hK hw 0 1 rfl rfl (by omega) (by decide) dX1_mostLots_11 ?_
  refine x_topN (n := ρ (5 + k)) (congrArg (fun q => nI (ρ q)) (by omega)) ?_
  have q_3 : 1 ≤ ρ (5 + k) := (hI.sup (k := k) (by omega) rfl).1
  have q_4 : ρ (5 + k) ≤ 9 := (hI.sup (k := k) (by omega) rfl).2
  refine x_min M hl.1 mw_289 mw_290 mw_13 mw_291 ⟨by decide, by decide⟩ ⟨Nat.zero_le _, Nat.zero_le _⟩ (Nat.le_of_ble_eq_true rfl) (by omega) (by omega) dX1_mostLots_12 ?_
  exact hret _ _ _ (nI (min (ρ (15 + 21 * j)) (ρ (5 + k)))) _ _ dX1_mostLots_15 hw rfl rfl ⟨rfl, rfl⟩
set_option maxHeartbeats 4000000 in
set_option maxRecDepth 20000 in
theorem k_X1_packLots (l : Launch) (G : va_G) (Y : Nat → Nat) (h j i k : Nat) (ρ : Nat → Nat) (γ : Nat → Nat → Nat) (hI : Inv ρ) (hj : j < ρ 4) (hk : k < 3) (hi : i ≤ ρ (22 + 21 * j)) : CtI l yX1_packLots cX1_packLots 4 .int 1 21 [.ref h, .int (nI j), .int (nI i), .int (nI k)] [aucW Y h ρ γ] (fun r sg => r = nI (lotOf ρ j i k) ∧ sg = [aucW Y h ρ γ]) G Y := by
  refine x_ofI (by decide) (Nat.le_of_ble_eq_true rfl) (fun p e s m args below meth c A ls Q M hK hZ hw hl hret => ?_)
  obtain ⟨hx, hb, -⟩ := id M
  have hl : lv_has ls 4 [(0, .ref h), (1, .int (nI j)), (2, .int (nI i)), (3, .int (nI k))] := hl
  have := hI.pck (j := j) hj rfl
  have := hI.n6
  have := hI.over
  have := hI.keep
  have := hI.stepp
  refine lv_iload_n hx hb dX1_packLots_0 rfl (lv_at hl 2 rfl) ?_
  refine x_zne M (tgt := 17) (by omega) dX1_packLots_1 (by decide) (fun c_1 => ?_) (fun c_1 => ?_)
  · refine lv_aload_n hx hb dX1_packLots_17 rfl (lv_at hl 0 rfl) ?_
    refine x_get M hK hw 0 0 rfl rfl ff_X1_36 rfl dX1_packLots_18 ?_
    refine lv_iload_n hx hb dX1_packLots_21 rfl (lv_at hl 1 rfl) ?_
    refine lv_iload_n hx hb dX1_packLots_22 rfl (lv_at hl 2 rfl) ?_
    refine x_cSI (As := [.int (nI j), .int (nI i)]) (k_X1_packCell l G Y j i (by omega)) cw_X1_88 [] M hK hZ hw hl.1 rfl (by decide) ⟨by decide, by decide⟩ ⟨Nat.zero_le _, Nat.zero_le _⟩ rfl rfl (Nat.le_of_ble_eq_true rfl) dX1_packLots_23 (fun r sg h_2 H locs hw => ?_)
    obtain ⟨rfl, rfl⟩ := h_2
    have hw : xW G A s.heap [aucW Y h ρ γ] H locs := hw
    refine lv_iload_n hx hb dX1_packLots_26 rfl (lv_at hl 3 rfl) ?_
    refine x_cNI (As := [.int (nI (3 * j + (i - 1))), .int (nI k)]) (k_X5_cell l G Y (3 * j + (i - 1)) k) cw_X1_72 [] M hK hZ hw hl.1 rfl (by decide) ⟨by decide, by decide⟩ ⟨Nat.zero_le _, Nat.zero_le _⟩ rfl rfl (Nat.le_of_ble_eq_true rfl) dX1_packLots_27 (fun r sg h_3 H locs hw => ?_)
    obtain ⟨rfl, rfl⟩ := h_3
    have hw : xW G A s.heap [aucW Y h ρ γ] H locs := hw
    refine x_topN (n := 9 * j + 3 * (i - 1) + k) (congrArg nI (by omega)) ?_
    refine x_iald M hK hw 0 9 rfl rfl (by omega) (by decide) dX1_packLots_30 ?_
    refine x_topN (n := ρ (23 + 21 * j + 4 * (i - 1) + k)) (congrArg nI (lot_at (j := j) (i := (i - 1)) (k := k) (by omega) (by omega) (by omega) (by omega) (by omega) (by omega))) ?_
    have q_4 : ρ (23 + 21 * j + 4 * (i - 1) + k) ≤ 9 := hI.lot (j := j) (i := (i - 1)) (by omega) (by omega) (k := k) (by omega) (by omega)
    exact hret _ _ _ (nI (ρ (23 + 21 * j + 4 * (i - 1) + k))) _ _ dX1_packLots_31 hw rfl rfl ⟨congrArg nI (by simp only [lotOf]; rw [if_neg (by omega)]), rfl⟩
  refine lv_aload_n hx hb dX1_packLots_4 rfl (lv_at hl 0 rfl) ?_
  refine x_get M hK hw 0 0 rfl rfl ff_X1_33 rfl dX1_packLots_5 ?_
  refine lv_iload_n hx hb dX1_packLots_8 rfl (lv_at hl 1 rfl) ?_
  refine lv_iload_n hx hb dX1_packLots_9 rfl (lv_at hl 3 rfl) ?_
  refine x_cNI (As := [.int (nI j), .int (nI k)]) (k_X5_cell l G Y j k) cw_X1_72 [] M hK hZ hw hl.1 rfl (by decide) ⟨by decide, by decide⟩ ⟨Nat.zero_le _, Nat.zero_le _⟩ rfl rfl (Nat.le_of_ble_eq_true rfl) dX1_packLots_10 (fun r sg h_5 H locs hw => ?_)
  obtain ⟨rfl, rfl⟩ := h_5
  have hw : xW G A s.heap [aucW Y h ρ γ] H locs := hw
  refine x_iald M hK hw 0 8 rfl rfl (by omega) (by decide) dX1_packLots_13 ?_
  refine x_topN (n := ρ (19 + 21 * j + k)) (congrArg nI (dem_at (j := j) (k := k) (by omega) (by omega) (by omega) (by omega))) ?_
  have q_6 : ρ (19 + 21 * j + k) ≤ 9 := hI.dem (j := j) (by omega) (k := k) (by omega) (by omega)
  refine lv_goto (tgt := 31) hx hb dX1_packLots_14 (by decide) ?_
  exact hret _ _ _ (nI (ρ (19 + 21 * j + k))) _ _ dX1_packLots_31 hw rfl rfl ⟨congrArg nI (by simp only [lotOf]; rw [if_pos (by omega)]), rfl⟩
set_option maxHeartbeats 4000000 in
set_option maxRecDepth 20000 in
theorem k_X1_costOf (l : Launch) (G : va_G) (Y : Nat → Nat) (h a b d : Nat) (ρ : Nat → Nat) (γ : Nat → Nat → Nat) (hI : Inv ρ) (ha : a ≤ 9) (hb2 : b ≤ 9) (hd : d ≤ 9) : CtI l yX1_costOf cX1_costOf 4 .int 0 0 [.ref h, .int (nI a), .int (nI b), .int (nI d)] [aucW Y h ρ γ] (fun r sg => r = nI (costOf ρ a b d) ∧ sg = [aucW Y h ρ γ]) G Y := by
  refine x_ofI (by decide) (Nat.le_of_ble_eq_true rfl) (fun p e s m args below meth c A ls Q M hK hZ hw hl hret => ?_)
  obtain ⟨hx, hb, -⟩ := id M
  have hl : lv_has ls 4 [(0, .ref h), (1, .int (nI a)), (2, .int (nI b)), (3, .int (nI d))] := hl
  have := hI.n6
  have := hI.over
  have := hI.keep
  have := hI.stepp
  refine lv_iload_n hx hb dX1_costOf_0 rfl (lv_at hl 1 rfl) ?_
  refine lv_aload_n hx hb dX1_costOf_1 rfl (lv_at hl 0 rfl) ?_
  refine x_get M hK hw 0 0 rfl rfl ff_X1_18 rfl dX1_costOf_2 ?_
  refine lv_iconst (v := (nI 0)) hx hb dX1_costOf_5 (by decide) ?_
  refine x_iald M hK hw 0 3 rfl rfl (by decide) (by decide) dX1_costOf_6 ?_
  refine x_topN (n := ρ 11) rfl ?_
  have q_1 : 1 ≤ ρ 11 := (hI.pri (q := 11) (k := 0) (by decide) rfl).1
  have q_2 : ρ 11 ≤ 99999 := (hI.pri (q := 11) (k := 0) (by decide) rfl).2
  refine x_imul M (n := a * (ρ 11)) dX1_costOf_7 rfl ?_
  have q_3 : a * (ρ 11) ≤ 899991 := Nat.le_trans (Nat.mul_le_mul (show a ≤ 9 by omega) (show ρ 11 ≤ 99999 by omega)) (by decide)
  refine lv_iload_n hx hb dX1_costOf_8 rfl (lv_at hl 2 rfl) ?_
  refine lv_aload_n hx hb dX1_costOf_9 rfl (lv_at hl 0 rfl) ?_
  refine x_get M hK hw 0 0 rfl rfl ff_X1_18 rfl dX1_costOf_10 ?_
  refine lv_iconst (v := (nI 1)) hx hb dX1_costOf_13 (by decide) ?_
  refine x_iald M hK hw 0 3 rfl rfl (by decide) (by decide) dX1_costOf_14 ?_
  refine x_topN (n := ρ 12) rfl ?_
  have q_4 : 1 ≤ ρ 12 := (hI.pri (q := 12) (k := 1) (by decide) rfl).1
  have q_5 : ρ 12 ≤ 99999 := (hI.pri (q := 12) (k := 1) (by decide) rfl).2
  refine x_imul M (n := b * (ρ 12)) dX1_costOf_15 rfl ?_
  have q_6 : b * (ρ 12) ≤ 899991 := Nat.le_trans (Nat.mul_le_mul (show b ≤ 9 by omega) (show ρ 12 ≤ 99999 by omega)) (by decide)
  refine x_iadd M (n := (a * (ρ 11)) + (b * (ρ 12))) dX1_costOf_16 rfl ?_
  refine lv_iload_n hx hb dX1_costOf_17 rfl (lv_at hl 3 rfl) ?_
  refine lv_aload_n hx hb dX1_costOf_18 rfl (lv_at hl 0 rfl) ?_
  refine x_get M hK hw 0 0 rfl rfl ff_X1_18 rfl dX1_costOf_19 ?_
  refine lv_iconst (v := (nI 2)) hx hb dX1_costOf_22 (by decide) ?_
  refine x_iald M hK hw 0 3 rfl rfl (by decide) (by decide) dX1_costOf_23 ?_
  refine x_topN (n := ρ 13) rfl ?_
  have q_7 : 1 ≤ ρ 13 := (hI.pri (q := 13) (k := 2) (by decide) rfl).1
  have q_8 : ρ 13 ≤ 99999 := (hI.pri (q := 13) (k := 2) (by decide) rfl).2
  refine x_imul M (n := d * (ρ 13)) dX1_costOf_24 rfl ?_
  have q_9 : d * (ρ 13) ≤ 899991 := Nat.le_trans (Nat.mul_le_mul (show d ≤ 9 by omega) (show ρ 13 ≤ 99999 by omega)) (by decide)
  refine x_iadd M (n := (a * (ρ 11)) + (b * (ρ 12)) + (d * (ρ 13))) dX1_costOf_25 rfl ?_
  exact hret _ _ _ (nI ((a * (ρ 11)) + (b * (ρ 12)) + (d * (ρ 13)))) _ _ dX1_costOf_26 hw rfl rfl ⟨congrArg nI (by simp only [costOf]), rfl⟩
set_option maxHeartbeats 4000000 in
set_option maxRecDepth 20000 in
theorem k_X1_packValue (l : Launch) (G : va_G) (Y : Nat → Nat) (h j i : Nat) (ρ : Nat → Nat) (γ : Nat → Nat → Nat) (hI : Inv ρ) (hj : j < ρ 4) (hi : i ≤ ρ (22 + 21 * j)) : CtI l yX1_packValue cX1_packValue 3 .int 1 23 [.ref h, .int (nI j), .int (nI i)] [aucW Y h ρ γ] (fun r sg => r = nI (worOf ρ j i) ∧ sg = [aucW Y h ρ γ]) G Y := by
  refine x_ofI (by decide) (Nat.le_of_ble_eq_true rfl) (fun p e s m args below meth c A ls Q M hK hZ hw hl hret => ?_)
  obtain ⟨hx, hb, -⟩ := id M
  have hl : lv_has ls 3 [(0, .ref h), (1, .int (nI j)), (2, .int (nI i))] := hl
  have := hI.pck (j := j) hj rfl
  have := hI.n6
  have := hI.over
  have := hI.keep
  have := hI.stepp
  refine lv_iload_n hx hb dX1_packValue_0 rfl (lv_at hl 2 rfl) ?_
  refine x_zle M (tgt := 15) (by omega) dX1_packValue_1 (by decide) (fun c_1 => ?_) (fun c_1 => ?_)
  · refine lv_aload_n hx hb dX1_packValue_15 rfl (lv_at hl 0 rfl) ?_
    refine lv_aload_n hx hb dX1_packValue_16 rfl (lv_at hl 0 rfl) ?_
    refine x_get M hK hw 0 0 rfl rfl ff_X1_33 rfl dX1_packValue_17 ?_
    refine lv_iload_n hx hb dX1_packValue_20 rfl (lv_at hl 1 rfl) ?_
    refine lv_iconst (v := (nI 0)) hx hb dX1_packValue_21 (by decide) ?_
    refine x_cNI (As := [.int (nI j), .int (nI 0)]) (k_X5_cell l G Y j 0) cw_X1_72 [] M hK hZ hw hl.1 rfl (by decide) ⟨by decide, by decide⟩ ⟨Nat.zero_le _, Nat.zero_le _⟩ rfl rfl (Nat.le_of_ble_eq_true rfl) dX1_packValue_22 (fun r sg h_2 H locs hw => ?_)
    obtain ⟨rfl, rfl⟩ := h_2
    have hw : xW G A s.heap [aucW Y h ρ γ] H locs := hw
    refine x_topN (n := 3 * j) (congrArg nI (by omega)) ?_
    refine x_iald M hK hw 0 8 rfl rfl (by omega) (by decide) dX1_packValue_25 ?_
    refine x_topN (n := ρ (19 + 21 * j)) (congrArg nI (dem_at (j := j) (k := 0) (by omega) (by decide) (by omega) (by omega))) ?_
    have q_3 : ρ (19 + 21 * j) ≤ 9 := hI.dem (j := j) (by omega) (k := 0) (by decide) (by omega)
    refine lv_aload_n hx hb dX1_packValue_26 rfl (lv_at hl 0 rfl) ?_
    refine x_get M hK hw 0 0 rfl rfl ff_X1_33 rfl dX1_packValue_27 ?_
    refine lv_iload_n hx hb dX1_packValue_30 rfl (lv_at hl 1 rfl) ?_
    refine lv_iconst (v := (nI 1)) hx hb dX1_packValue_31 (by decide) ?_
    refine x_cNI (As := [.int (nI j), .int (nI 1)]) (k_X5_cell l G Y j 1) cw_X1_72 [] M hK hZ hw hl.1 rfl (by decide) ⟨by decide, by decide⟩ ⟨Nat.zero_le _, Nat.zero_le _⟩ rfl rfl (Nat.le_of_ble_eq_true rfl) dX1_packValue_32 (fun r sg h_4 H locs hw => ?_)
    obtain ⟨rfl, rfl⟩ := h_4
    have hw : xW G A s.heap [aucW Y h ρ γ] H locs := hw
    refine x_topN (n := 1 + 3 * j) (congrArg nI (by omega)) ?_
    refine x_iald M hK hw 0 8 rfl rfl (by omega) (by decide) dX1_packValue_35 ?_
    refine x_topN (n := ρ (20 + 21 * j)) (congrArg nI (dem_at (j := j) (k := 1) (by omega) (by decide) (by omega) (by omega))) ?_
    have q_5 : ρ (20 + 21 * j) ≤ 9 := hI.dem (j := j) (by omega) (k := 1) (by decide) (by omega)
    refine lv_aload_n hx hb dX1_packValue_36 rfl (lv_at hl 0 rfl) ?_
    refine x_get M hK hw 0 0 rfl rfl ff_X1_33 rfl dX1_packValue_37 ?_
    refine lv_iload_n hx hb dX1_packValue_40 rfl (lv_at hl 1 rfl) ?_
    refine lv_iconst (v := (nI 2)) hx hb dX1_packValue_41 (by decide) ?_
    refine x_cNI (As := [.int (nI j), .int (nI 2)]) (k_X5_cell l G Y j 2) cw_X1_72 [] M hK hZ hw hl.1 rfl (by decide) ⟨by decide, by decide⟩ ⟨Nat.zero_le _, Nat.zero_le _⟩ rfl rfl (Nat.le_of_ble_eq_true rfl) dX1_packValue_42 (fun r sg h_6 H locs hw => ?_)
    obtain ⟨rfl, rfl⟩ := h_6
    have hw : xW G A s.heap [aucW Y h ρ γ] H locs := hw
    refine x_topN (n := 2 + 3 * j) (congrArg nI (by omega)) ?_
    refine x_iald M hK hw 0 8 rfl rfl (by omega) (by decide) dX1_packValue_45 ?_
    refine x_topN (n := ρ (21 + 21 * j)) (congrArg nI (dem_at (j := j) (k := 2) (by omega) (by decide) (by omega) (by omega))) ?_
    have q_7 : ρ (21 + 21 * j) ≤ 9 := hI.dem (j := j) (by omega) (k := 2) (by decide) (by omega)
    refine x_cVI (As := [.int (nI (ρ (19 + 21 * j))), .int (nI (ρ (20 + 21 * j))), .int (nI (ρ (21 + 21 * j)))]) (k_X1_costOf l G Y h (ρ (19 + 21 * j)) (ρ (20 + 21 * j)) (ρ (21 + 21 * j)) ρ γ (hI) (by omega) (by omega) (by omega)) cw_X1_91 [0] 0 0 M hK hZ hw hl.1 rfl (by decide) rfl rfl rfl ⟨by decide, by decide⟩ ⟨Nat.zero_le _, Nat.zero_le _⟩ rfl rfl (Nat.le_of_ble_eq_true rfl) dX1_packValue_46 (fun r sg h_8 H locs hw => ?_)
    obtain ⟨rfl, rfl⟩ := h_8
    have hw : xW G A s.heap [aucW Y h ρ γ] H locs := hw
    have q_9 : costOf ρ (ρ (19 + 21 * j)) (ρ (20 + 21 * j)) (ρ (21 + 21 * j)) ≤ 2699973 := costOf_le hI (by omega) (by omega) (by omega)
    exact hret _ _ _ (nI (costOf ρ (ρ (19 + 21 * j)) (ρ (20 + 21 * j)) (ρ (21 + 21 * j)))) _ _ dX1_packValue_49 hw rfl rfl ⟨congrArg nI (by simp only [worOf]; rw [if_neg (by omega)]), rfl⟩
  refine lv_aload_n hx hb dX1_packValue_4 rfl (lv_at hl 0 rfl) ?_
  refine x_get M hK hw 0 0 rfl rfl ff_X1_39 rfl dX1_packValue_5 ?_
  refine lv_iload_n hx hb dX1_packValue_8 rfl (lv_at hl 1 rfl) ?_
  refine lv_iload_n hx hb dX1_packValue_9 rfl (lv_at hl 2 rfl) ?_
  refine x_cSI (As := [.int (nI j), .int (nI i)]) (k_X1_packCell l G Y j i (by omega)) cw_X1_88 [] M hK hZ hw hl.1 rfl (by decide) ⟨by decide, by decide⟩ ⟨Nat.zero_le _, Nat.zero_le _⟩ rfl rfl (Nat.le_of_ble_eq_true rfl) dX1_packValue_10 (fun r sg h_10 H locs hw => ?_)
  obtain ⟨rfl, rfl⟩ := h_10
  have hw : xW G A s.heap [aucW Y h ρ γ] H locs := hw
  refine x_iald M hK hw 0 10 rfl rfl (by omega) (by decide) dX1_packValue_13 ?_
  refine x_topN (n := ρ (26 + 21 * j + 4 * (i - 1))) (congrArg nI (wor_at (j := j) (i := i - 1) (by omega) (by omega) (by omega) (by omega) (by omega))) ?_
  have q_11 : ρ (26 + 21 * j + 4 * (i - 1)) ≤ 999999 := hI.wor (j := j) (i := (i - 1)) (by omega) (by omega) (by omega)
  exact hret _ _ _ (nI (ρ (26 + 21 * j + 4 * (i - 1)))) _ _ dX1_packValue_14 hw rfl rfl ⟨congrArg nI (by simp only [worOf]; rw [if_pos (by omega)]), rfl⟩
