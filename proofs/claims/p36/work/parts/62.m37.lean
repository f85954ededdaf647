theorem fs_X1 : ∀ j, j < 15 → defaultValue (tyX1 j) = vp_V [.null, .null, .null, .null, .null, .null, .null, .null, .null, .null, .int (nI 0), .int (nI 0), .int (nI 0), .int (nI 0), .int (nI 0)] j := fun j h => match j, h with
  | 0, _ => rfl
  | 1, _ => rfl
  | 2, _ => rfl
  | 3, _ => rfl
  | 4, _ => rfl
  | 5, _ => rfl
  | 6, _ => rfl
  | 7, _ => rfl
  | 8, _ => rfl
  | 9, _ => rfl
  | 10, _ => rfl
  | 11, _ => rfl
  | 12, _ => rfl
  | 13, _ => rfl
  | 14, _ => rfl
  | k + 15, h => absurd h (by omega)
theorem fs_X4 : ∀ j, j < 2 → defaultValue (tyX4 j) = vp_V [.null, .int (nI 0)] j := fun j h => match j, h with
  | 0, _ => rfl
  | 1, _ => rfl
  | k + 2, h => absurd h (by omega)
theorem fs_X0 : ∀ j, j < 4 → defaultValue (tyX0 j) = vp_V [.null, .null, .null, .int (nI 0)] j := fun j h => match j, h with
  | 0, _ => rfl
  | 1, _ => rfl
  | 2, _ => rfl
  | 3, _ => rfl
  | k + 4, h => absurd h (by omega)
theorem fs_X2 : ∀ j, j < 3 → defaultValue (tyX2 j) = vp_V [.null, .int (nI 0), .int (nI 0)] j := fun j h => match j, h with
  | 0, _ => rfl
  | 1, _ => rfl
  | 2, _ => rfl
  | k + 3, h => absurd h (by omega)
theorem fs_X5 : ∀ j, j < 7 → defaultValue (tyX5 j) = vp_V [.null, .null, .null, .null, .null, .null, .null] j := fun j h => match j, h with
  | 0, _ => rfl
  | 1, _ => rfl
  | 2, _ => rfl
  | 3, _ => rfl
  | 4, _ => rfl
  | 5, _ => rfl
  | 6, _ => rfl
  | k + 7, h => absurd h (by omega)
set_option maxHeartbeats 4000000 in
theorem n_X4 (l : Launch) (G : va_G) (Y : Nat → Nat) : CtN l yX4_init cX4_init 1 3 60 1 120 3 [.null, .int (nI 0)] (fun h sg => sg = [txtW Y h (fun _ => 0) 0]) G Y := by
  refine x_ofN (by decide) (by decide) (fun h p e s m args below meth c ls Q M hK hZ hAO hnm hs0 hw hl hret => ?_)
  obtain ⟨hx, hb, -⟩ := id M
  have hnm : meth.name = "<init>" := hnm
  have hz : s.heap.size = h + 1 := hs0
  refine lv_aload_n hx hb dX4_init_0 rfl (lv_at hl 0 rfl) ?_
  refine W.objInit hx hb M.2.2.2.1 (M.2.2.2.2 _ mw_127) (M.2.2.2.2 _ mw_26) (M.2.2.2.2 _ mw_27) rfl (by rw [M.2.2.1]; exact hl.1) rfl dX4_init_1 (Nat.le_of_ble_eq_true rfl) (Nat.le_of_ble_eq_true rfl) ?_
  refine lv_aload_n hx hb dX4_init_4 rfl (lv_at hl 0 rfl) ?_
  refine lv_bipush (v := nI 120) hx hb dX4_init_5 (by decide) ?_
  refine x_newa (atype := .char) (kY := 2) (N := 120) (a0 := (120, .inl (rowF (fun _ => 0)))) (z := h + 1) M hK hw mw_136 rfl rfl (by decide) hz (Nat.le_of_ble_eq_true rfl) (Nat.le_of_ble_eq_true rfl) dX4_init_7 (fun H hz hw => ?_)
  have hw : xW G (fun q => h ≤ q) s.heap [[(h, .inr (3, [.null, .int (nI 0)]))], [(h + 1, .inl (Y 2, 120, .inl (rowF (fun _ => 0))))]] _ _ := hw
  refine x_putF M hK hw 0 0 rfl rfl fp_X4_9 hnm rfl rfl (Nat.le_of_ble_eq_true rfl) dX4_init_9 (fun H locs hw hz2 => ?_)
  have hz := hz2.trans hz
  have hw : xW G (fun q => h ≤ q) s.heap [[(h, .inr (3, [.ref (h + 1), .int (nI 0)]))], [(h + 1, .inl (Y 2, 120, .inl (rowF (fun _ => 0))))]] _ _ := hw
  have hw : xW G (fun q => h ≤ q) s.heap [txtW Y h (fun _ => 0) 0] _ _ := hw.recut rfl
  exact hret _ _ _ _ _ dX4_init_12 hz hw rfl
set_option maxHeartbeats 4000000 in
theorem n_X0 (l : Launch) (G : va_G) (Y : Nat → Nat) : CtN l yX0_init cX0_init 1 3 60 3 15 0 [.null, .null, .null, .int (nI 0)] (fun h sg => sg = [asgW Y h (fun _ => 0) (rowF (fun _ => 0)) (rowF (fun _ => 0)) 0]) G Y := by
  refine x_ofN (by decide) (by decide) (fun h p e s m args below meth c ls Q M hK hZ hAO hnm hs0 hw hl hret => ?_)
  obtain ⟨hx, hb, -⟩ := id M
  have hnm : meth.name = "<init>" := hnm
  have hz : s.heap.size = h + 1 := hs0
  refine lv_aload_n hx hb dX0_init_0 rfl (lv_at hl 0 rfl) ?_
  refine W.objInit hx hb M.2.2.2.1 (M.2.2.2.2 _ mw_142) (M.2.2.2.2 _ mw_26) (M.2.2.2.2 _ mw_27) rfl (by rw [M.2.2.1]; exact hl.1) rfl dX0_init_1 (Nat.le_of_ble_eq_true rfl) (Nat.le_of_ble_eq_true rfl) ?_
  refine lv_aload_n hx hb dX0_init_4 rfl (lv_at hl 0 rfl) ?_
  refine lv_iconst (v := nI 3) hx hb dX0_init_5 (by decide) ?_
  refine x_newa (atype := .int) (kY := 0) (N := 3) (a0 := (3, .inl (rowF (fun _ => 0)))) (z := h + 1) M hK hw mw_102 rfl rfl (by decide) hz (Nat.le_of_ble_eq_true rfl) (Nat.le_of_ble_eq_true rfl) dX0_init_6 (fun H hz hw => ?_)
  have hw : xW G (fun q => h ≤ q) s.heap [[(h, .inr (0, [.null, .null, .null, .int (nI 0)]))], [(h + 1, .inl (Y 0, 3, .inl (rowF (fun _ => 0))))]] _ _ := hw
  refine x_putF M hK hw 0 0 rfl rfl fp_X0_9 hnm rfl rfl (Nat.le_of_ble_eq_true rfl) dX0_init_8 (fun H locs hw hz2 => ?_)
  have hz := hz2.trans hz
  have hw : xW G (fun q => h ≤ q) s.heap [[(h, .inr (0, [.ref (h + 1), .null, .null, .int (nI 0)]))], [(h + 1, .inl (Y 0, 3, .inl (rowF (fun _ => 0))))]] _ _ := hw
  refine lv_aload_n hx hb dX0_init_11 rfl (lv_at hl 0 rfl) ?_
  refine lv_bipush (v := nI 6) hx hb dX0_init_12 (by decide) ?_
  refine x_newa (atype := .int) (kY := 0) (N := 6) (a0 := (6, .inl (rowF (fun _ => 0)))) (z := h + 2) M hK hw mw_102 rfl rfl (by decide) hz (Nat.le_of_ble_eq_true rfl) (Nat.le_of_ble_eq_true rfl) dX0_init_14 (fun H hz hw => ?_)
  have hw : xW G (fun q => h ≤ q) s.heap [[(h, .inr (0, [.ref (h + 1), .null, .null, .int (nI 0)]))], [(h + 1, .inl (Y 0, 3, .inl (rowF (fun _ => 0))))], [(h + 2, .inl (Y 0, 6, .inl (rowF (fun _ => 0))))]] _ _ := hw
  refine x_putF M hK hw 0 0 rfl rfl fp_X0_15 hnm rfl rfl (Nat.le_of_ble_eq_true rfl) dX0_init_16 (fun H locs hw hz2 => ?_)
  have hz := hz2.trans hz
  have hw : xW G (fun q => h ≤ q) s.heap [[(h, .inr (0, [.ref (h + 1), .ref (h + 2), .null, .int (nI 0)]))], [(h + 1, .inl (Y 0, 3, .inl (rowF (fun _ => 0))))], [(h + 2, .inl (Y 0, 6, .inl (rowF (fun _ => 0))))]] _ _ := hw
  refine lv_aload_n hx hb dX0_init_19 rfl (lv_at hl 0 rfl) ?_
  refine lv_bipush (v := nI 6) hx hb dX0_init_20 (by decide) ?_
  refine x_newa (atype := .int) (kY := 0) (N := 6) (a0 := (6, .inl (rowF (fun _ => 0)))) (z := h + 3) M hK hw mw_102 rfl rfl (by decide) hz (Nat.le_of_ble_eq_true rfl) (Nat.le_of_ble_eq_true rfl) dX0_init_22 (fun H hz hw => ?_)
  have hw : xW G (fun q => h ≤ q) s.heap [[(h, .inr (0, [.ref (h + 1), .ref (h + 2), .null, .int (nI 0)]))], [(h + 1, .inl (Y 0, 3, .inl (rowF (fun _ => 0))))], [(h + 2, .inl (Y 0, 6, .inl (rowF (fun _ => 0))))], [(h + 3, .inl (Y 0, 6, .inl (rowF (fun _ => 0))))]] _ _ := hw
  refine x_putF M hK hw 0 0 rfl rfl fp_X0_18 hnm rfl rfl (Nat.le_of_ble_eq_true rfl) dX0_init_24 (fun H locs hw hz2 => ?_)
  have hz := hz2.trans hz
  have hw : xW G (fun q => h ≤ q) s.heap [[(h, .inr (0, [.ref (h + 1), .ref (h + 2), .ref (h + 3), .int (nI 0)]))], [(h + 1, .inl (Y 0, 3, .inl (rowF (fun _ => 0))))], [(h + 2, .inl (Y 0, 6, .inl (rowF (fun _ => 0))))], [(h + 3, .inl (Y 0, 6, .inl (rowF (fun _ => 0))))]] _ _ := hw
  have hw : xW G (fun q => h ≤ q) s.heap [asgW Y h (fun _ => 0) (rowF (fun _ => 0)) (rowF (fun _ => 0)) 0] _ _ := hw.recut rfl
  exact hret _ _ _ _ _ dX0_init_27 hz hw rfl
set_option maxHeartbeats 4000000 in
theorem n_X1 (l : Launch) (G : va_G) (Y : Nat → Nat) : CtN l yX1_init cX1_init 1 3 60 10 135 1 [.null, .null, .null, .null, .null, .null, .null, .null, .null, .null, .int (nI 0), .int (nI 0), .int (nI 0), .int (nI 0), .int (nI 0)] (fun h sg => ∃ γ' : Nat → Nat → Nat, sg = [aucW Y h row0 γ']) G Y := by
  refine x_ofN (by decide) (by decide) (fun h p e s m args below meth c ls Q M hK hZ hAO hnm hs0 hw hl hret => ?_)
  obtain ⟨hx, hb, -⟩ := id M
  have hnm : meth.name = "<init>" := hnm
  have hz : s.heap.size = h + 1 := hs0
  refine lv_aload_n hx hb dX1_init_0 rfl (lv_at hl 0 rfl) ?_
  refine W.objInit hx hb M.2.2.2.1 (M.2.2.2.2 _ mw_33) (M.2.2.2.2 _ mw_26) (M.2.2.2.2 _ mw_27) rfl (by rw [M.2.2.1]; exact hl.1) rfl dX1_init_1 (Nat.le_of_ble_eq_true rfl) (Nat.le_of_ble_eq_true rfl) ?_
  refine lv_aload_n hx hb dX1_init_4 rfl (lv_at hl 0 rfl) ?_
  refine lv_iconst (v := nI 3) hx hb dX1_init_5 (by decide) ?_
  refine x_newa (atype := .int) (kY := 0) (N := 3) (a0 := (3, .inl (rowF (fun _ => 0)))) (z := h + 1) M hK hw mw_102 rfl rfl (by decide) hz (Nat.le_of_ble_eq_true rfl) (Nat.le_of_ble_eq_true rfl) dX1_init_6 (fun H hz hw => ?_)
  have hw : xW G (fun q => h ≤ q) s.heap [[(h, .inr (1, [.null, .null, .null, .null, .null, .null, .null, .null, .null, .null, .int (nI 0), .int (nI 0), .int (nI 0), .int (nI 0), .int (nI 0)]))], [(h + 1, .inl (Y 0, 3, .inl (rowF (fun _ => 0))))]] _ _ := hw
  refine x_putF M hK hw 0 0 rfl rfl fp_X1_9 hnm rfl rfl (Nat.le_of_ble_eq_true rfl) dX1_init_8 (fun H locs hw hz2 => ?_)
  have hz := hz2.trans hz
  have hw : xW G (fun q => h ≤ q) s.heap [[(h, .inr (1, [.ref (h + 1), .null, .null, .null, .null, .null, .null, .null, .null, .null, .int (nI 0), .int (nI 0), .int (nI 0), .int (nI 0), .int (nI 0)]))], [(h + 1, .inl (Y 0, 3, .inl (rowF (fun _ => 0))))]] _ _ := hw
  refine lv_aload_n hx hb dX1_init_11 rfl (lv_at hl 0 rfl) ?_
  refine lv_iconst (v := nI 3) hx hb dX1_init_12 (by decide) ?_
  refine x_newa (atype := .int) (kY := 0) (N := 3) (a0 := (3, .inl (rowF (fun _ => 0)))) (z := h + 2) M hK hw mw_102 rfl rfl (by decide) hz (Nat.le_of_ble_eq_true rfl) (Nat.le_of_ble_eq_true rfl) dX1_init_13 (fun H hz hw => ?_)
  have hw : xW G (fun q => h ≤ q) s.heap [[(h, .inr (1, [.ref (h + 1), .null, .null, .null, .null, .null, .null, .null, .null, .null, .int (nI 0), .int (nI 0), .int (nI 0), .int (nI 0), .int (nI 0)]))], [(h + 1, .inl (Y 0, 3, .inl (rowF (fun _ => 0))))], [(h + 2, .inl (Y 0, 3, .inl (rowF (fun _ => 0))))]] _ _ := hw
  refine x_putF M hK hw 0 0 rfl rfl fp_X1_15 hnm rfl rfl (Nat.le_of_ble_eq_true rfl) dX1_init_15 (fun H locs hw hz2 => ?_)
  have hz := hz2.trans hz
  have hw : xW G (fun q => h ≤ q) s.heap [[(h, .inr (1, [.ref (h + 1), .ref (h + 2), .null, .null, .null, .null, .null, .null, .null, .null, .int (nI 0), .int (nI 0), .int (nI 0), .int (nI 0), .int (nI 0)]))], [(h + 1, .inl (Y 0, 3, .inl (rowF (fun _ => 0))))], [(h + 2, .inl (Y 0, 3, .inl (rowF (fun _ => 0))))]] _ _ := hw
  refine lv_aload_n hx hb dX1_init_18 rfl (lv_at hl 0 rfl) ?_
  refine lv_iconst (v := nI 3) hx hb dX1_init_19 (by decide) ?_
  refine x_newa (atype := .int) (kY := 0) (N := 3) (a0 := (3, .inl (rowF (fun _ => 0)))) (z := h + 3) M hK hw mw_102 rfl rfl (by decide) hz (Nat.le_of_ble_eq_true rfl) (Nat.le_of_ble_eq_true rfl) dX1_init_20 (fun H hz hw => ?_)
  have hw : xW G (fun q => h ≤ q) s.heap [[(h, .inr (1, [.ref (h + 1), .ref (h + 2), .null, .null, .null, .null, .null, .null, .null, .null, .int (nI 0), .int (nI 0), .int (nI 0), .int (nI 0), .int (nI 0)]))], [(h + 1, .inl (Y 0, 3, .inl (rowF (fun _ => 0))))], [(h + 2, .inl (Y 0, 3, .inl (rowF (fun _ => 0))))], [(h + 3, .inl (Y 0, 3, .inl (rowF (fun _ => 0))))]] _ _ := hw
  refine x_putF M hK hw 0 0 rfl rfl fp_X1_18 hnm rfl rfl (Nat.le_of_ble_eq_true rfl) dX1_init_22 (fun H locs hw hz2 => ?_)
  have hz := hz2.trans hz
  have hw : xW G (fun q => h ≤ q) s.heap [[(h, .inr (1, [.ref (h + 1), .ref (h + 2), .ref (h + 3), .null, .null, .null, .null, .null, .null, .null, .int (nI 0), .int (nI 0), .int (nI 0), .int (nI 0), .int (nI 0)]))], [(h + 1, .inl (Y 0, 3, .inl (rowF (fun _ => 0))))], [(h + 2, .inl (Y 0, 3, .inl (rowF (fun _ => 0))))], [(h + 3, .inl (Y 0, 3, .inl (rowF (fun _ => 0))))]] _ _ := hw
  refine lv_aload_n hx hb dX1_init_25 rfl (lv_at hl 0 rfl) ?_
  refine lv_bipush (v := nI 6) hx hb dX1_init_26 (by decide) ?_
  refine x_newa (atype := .int) (kY := 0) (N := 6) (a0 := (6, .inl (rowF (fun _ => 0)))) (z := h + 4) M hK hw mw_102 rfl rfl (by decide) hz (Nat.le_of_ble_eq_true rfl) (Nat.le_of_ble_eq_true rfl) dX1_init_28 (fun H hz hw => ?_)
  have hw : xW G (fun q => h ≤ q) s.heap [[(h, .inr (1, [.ref (h + 1), .ref (h + 2), .ref (h + 3), .null, .null, .null, .null, .null, .null, .null, .int (nI 0), .int (nI 0), .int (nI 0), .int (nI 0), .int (nI 0)]))], [(h + 1, .inl (Y 0, 3, .inl (rowF (fun _ => 0))))], [(h + 2, .inl (Y 0, 3, .inl (rowF (fun _ => 0))))], [(h + 3, .inl (Y 0, 3, .inl (rowF (fun _ => 0))))], [(h + 4, .inl (Y 0, 6, .inl (rowF (fun _ => 0))))]] _ _ := hw
  refine x_putF M hK hw 0 0 rfl rfl fp_X1_21 hnm rfl rfl (Nat.le_of_ble_eq_true rfl) dX1_init_30 (fun H locs hw hz2 => ?_)
  have hz := hz2.trans hz
  have hw : xW G (fun q => h ≤ q) s.heap [[(h, .inr (1, [.ref (h + 1), .ref (h + 2), .ref (h + 3), .ref (h + 4), .null, .null, .null, .null, .null, .null, .int (nI 0), .int (nI 0), .int (nI 0), .int (nI 0), .int (nI 0)]))], [(h + 1, .inl (Y 0, 3, .inl (rowF (fun _ => 0))))], [(h + 2, .inl (Y 0, 3, .inl (rowF (fun _ => 0))))], [(h + 3, .inl (Y 0, 3, .inl (rowF (fun _ => 0))))], [(h + 4, .inl (Y 0, 6, .inl (rowF (fun _ => 0))))]] _ _ := hw
  refine lv_aload_n hx hb dX1_init_33 rfl (lv_at hl 0 rfl) ?_
  refine lv_bipush (v := nI 6) hx hb dX1_init_34 (by decide) ?_
  refine x_newa (atype := .int) (kY := 0) (N := 6) (a0 := (6, .inl (rowF (fun _ => 0)))) (z := h + 5) M hK hw mw_102 rfl rfl (by decide) hz (Nat.le_of_ble_eq_true rfl) (Nat.le_of_ble_eq_true rfl) dX1_init_36 (fun H hz hw => ?_)
  have hw : xW G (fun q => h ≤ q) s.heap [[(h, .inr (1, [.ref (h + 1), .ref (h + 2), .ref (h + 3), .ref (h + 4), .null, .null, .null, .null, .null, .null, .int (nI 0), .int (nI 0), .int (nI 0), .int (nI 0), .int (nI 0)]))], [(h + 1, .inl (Y 0, 3, .inl (rowF (fun _ => 0))))], [(h + 2, .inl (Y 0, 3, .inl (rowF (fun _ => 0))))], [(h + 3, .inl (Y 0, 3, .inl (rowF (fun _ => 0))))], [(h + 4, .inl (Y 0, 6, .inl (rowF (fun _ => 0))))], [(h + 5, .inl (Y 0, 6, .inl (rowF (fun _ => 0))))]] _ _ := hw
  refine x_putF M hK hw 0 0 rfl rfl fp_X1_24 hnm rfl rfl (Nat.le_of_ble_eq_true rfl) dX1_init_38 (fun H locs hw hz2 => ?_)
  have hz := hz2.trans hz
  have hw : xW G (fun q => h ≤ q) s.heap [[(h, .inr (1, [.ref (h + 1), .ref (h + 2), .ref (h + 3), .ref (h + 4), .ref (h + 5), .null, .null, .null, .null, .null, .int (nI 0), .int (nI 0), .int (nI 0), .int (nI 0), .int (nI 0)]))], [(h + 1, .inl (Y 0, 3, .inl (rowF (fun _ => 0))))], [(h + 2, .inl (Y 0, 3, .inl (rowF (fun _ => 0))))], [(h + 3, .inl (Y 0, 3, .inl (rowF (fun _ => 0))))], [(h + 4, .inl (Y 0, 6, .inl (rowF (fun _ => 0))))], [(h + 5, .inl (Y 0, 6, .inl (rowF (fun _ => 0))))]] _ _ := hw
  refine lv_aload_n hx hb dX1_init_41 rfl (lv_at hl 0 rfl) ?_
  refine lv_bipush (v := nI 6) hx hb dX1_init_42 (by decide) ?_
  refine x_newa (atype := .int) (kY := 0) (N := 6) (a0 := (6, .inl (rowF (fun _ => 0)))) (z := h + 6) M hK hw mw_102 rfl rfl (by decide) hz (Nat.le_of_ble_eq_true rfl) (Nat.le_of_ble_eq_true rfl) dX1_init_44 (fun H hz hw => ?_)
  have hw : xW G (fun q => h ≤ q) s.heap [[(h, .inr (1, [.ref (h + 1), .ref (h + 2), .ref (h + 3), .ref (h + 4), .ref (h + 5), .null, .null, .null, .null, .null, .int (nI 0), .int (nI 0), .int (nI 0), .int (nI 0), .int (nI 0)]))], [(h + 1, .inl (Y 0, 3, .inl (rowF (fun _ => 0))))], [(h + 2, .inl (Y 0, 3, .inl (rowF (fun _ => 0))))], [(h + 3, .inl (Y 0, 3, .inl (rowF (fun _ => 0))))], [(h + 4, .inl (Y 0, 6, .inl (rowF (fun _ => 0))))], [(h + 5, .inl (Y 0, 6, .inl (rowF (fun _ => 0))))], [(h + 6, .inl (Y 0, 6, .inl (rowF (fun _ => 0))))]] _ _ := hw
  refine x_putF M hK hw 0 0 rfl rfl fp_X1_27 hnm rfl rfl (Nat.le_of_ble_eq_true rfl) dX1_init_46 (fun H locs hw hz2 => ?_)
  have hz := hz2.trans hz
  have hw : xW G (fun q => h ≤ q) s.heap [[(h, .inr (1, [.ref (h + 1), .ref (h + 2), .ref (h + 3), .ref (h + 4), .ref (h + 5), .ref (h + 6), .null, .null, .null, .null, .int (nI 0), .int (nI 0), .int (nI 0), .int (nI 0), .int (nI 0)]))], [(h + 1, .inl (Y 0, 3, .inl (rowF (fun _ => 0))))], [(h + 2, .inl (Y 0, 3, .inl (rowF (fun _ => 0))))], [(h + 3, .inl (Y 0, 3, .inl (rowF (fun _ => 0))))], [(h + 4, .inl (Y 0, 6, .inl (rowF (fun _ => 0))))], [(h + 5, .inl (Y 0, 6, .inl (rowF (fun _ => 0))))], [(h + 6, .inl (Y 0, 6, .inl (rowF (fun _ => 0))))]] _ _ := hw
  refine lv_aload_n hx hb dX1_init_49 rfl (lv_at hl 0 rfl) ?_
  refine lv_bipush (v := nI 18) hx hb dX1_init_50 (by decide) ?_
  refine x_newa (atype := .int) (kY := 0) (N := 18) (a0 := (18, .inl (rowF (fun _ => 0)))) (z := h + 7) M hK hw mw_102 rfl rfl (by decide) hz (Nat.le_of_ble_eq_true rfl) (Nat.le_of_ble_eq_true rfl) dX1_init_52 (fun H hz hw => ?_)
  have hw : xW G (fun q => h ≤ q) s.heap [[(h, .inr (1, [.ref (h + 1), .ref (h + 2), .ref (h + 3), .ref (h + 4), .ref (h + 5), .ref (h + 6), .null, .null, .null, .null, .int (nI 0), .int (nI 0), .int (nI 0), .int (nI 0), .int (nI 0)]))], [(h + 1, .inl (Y 0, 3, .inl (rowF (fun _ => 0))))], [(h + 2, .inl (Y 0, 3, .inl (rowF (fun _ => 0))))], [(h + 3, .inl (Y 0, 3, .inl (rowF (fun _ => 0))))], [(h + 4, .inl (Y 0, 6, .inl (rowF (fun _ => 0))))], [(h + 5, .inl (Y 0, 6, .inl (rowF (fun _ => 0))))], [(h + 6, .inl (Y 0, 6, .inl (rowF (fun _ => 0))))], [(h + 7, .inl (Y 0, 18, .inl (rowF (fun _ => 0))))]] _ _ := hw
  refine x_putF M hK hw 0 0 rfl rfl fp_X1_30 hnm rfl rfl (Nat.le_of_ble_eq_true rfl) dX1_init_54 (fun H locs hw hz2 => ?_)
  have hz := hz2.trans hz
  have hw : xW G (fun q => h ≤ q) s.heap [[(h, .inr (1, [.ref (h + 1), .ref (h + 2), .ref (h + 3), .ref (h + 4), .ref (h + 5), .ref (h + 6), .ref (h + 7), .null, .null, .null, .int (nI 0), .int (nI 0), .int (nI 0), .int (nI 0), .int (nI 0)]))], [(h + 1, .inl (Y 0, 3, .inl (rowF (fun _ => 0))))], [(h + 2, .inl (Y 0, 3, .inl (rowF (fun _ => 0))))], [(h + 3, .inl (Y 0, 3, .inl (rowF (fun _ => 0))))], [(h + 4, .inl (Y 0, 6, .inl (rowF (fun _ => 0))))], [(h + 5, .inl (Y 0, 6, .inl (rowF (fun _ => 0))))], [(h + 6, .inl (Y 0, 6, .inl (rowF (fun _ => 0))))], [(h + 7, .inl (Y 0, 18, .inl (rowF (fun _ => 0))))]] _ _ := hw
  refine lv_aload_n hx hb dX1_init_57 rfl (lv_at hl 0 rfl) ?_
  refine lv_bipush (v := nI 18) hx hb dX1_init_58 (by decide) ?_
  refine x_newa (atype := .int) (kY := 0) (N := 18) (a0 := (18, .inl (rowF (fun _ => 0)))) (z := h + 8) M hK hw mw_102 rfl rfl (by decide) hz (Nat.le_of_ble_eq_true rfl) (Nat.le_of_ble_eq_true rfl) dX1_init_60 (fun H hz hw => ?_)
  have hw : xW G (fun q => h ≤ q) s.heap [[(h, .inr (1, [.ref (h + 1), .ref (h + 2), .ref (h + 3), .ref (h + 4), .ref (h + 5), .ref (h + 6), .ref (h + 7), .null, .null, .null, .int (nI 0), .int (nI 0), .int (nI 0), .int (nI 0), .int (nI 0)]))], [(h + 1, .inl (Y 0, 3, .inl (rowF (fun _ => 0))))], [(h + 2, .inl (Y 0, 3, .inl (rowF (fun _ => 0))))], [(h + 3, .inl (Y 0, 3, .inl (rowF (fun _ => 0))))], [(h + 4, .inl (Y 0, 6, .inl (rowF (fun _ => 0))))], [(h + 5, .inl (Y 0, 6, .inl (rowF (fun _ => 0))))], [(h + 6, .inl (Y 0, 6, .inl (rowF (fun _ => 0))))], [(h + 7, .inl (Y 0, 18, .inl (rowF (fun _ => 0))))], [(h + 8, .inl (Y 0, 18, .inl (rowF (fun _ => 0))))]] _ _ := hw
  refine x_putF M hK hw 0 0 rfl rfl fp_X1_33 hnm rfl rfl (Nat.le_of_ble_eq_true rfl) dX1_init_62 (fun H locs hw hz2 => ?_)
  have hz := hz2.trans hz
  have hw : xW G (fun q => h ≤ q) s.heap [[(h, .inr (1, [.ref (h + 1), .ref (h + 2), .ref (h + 3), .ref (h + 4), .ref (h + 5), .ref (h + 6), .ref (h + 7), .ref (h + 8), .null, .null, .int (nI 0), .int (nI 0), .int (nI 0), .int (nI 0), .int (nI 0)]))], [(h + 1, .inl (Y 0, 3, .inl (rowF (fun _ => 0))))], [(h + 2, .inl (Y 0, 3, .inl (rowF (fun _ => 0))))], [(h + 3, .inl (Y 0, 3, .inl (rowF (fun _ => 0))))], [(h + 4, .inl (Y 0, 6, .inl (rowF (fun _ => 0))))], [(h + 5, .inl (Y 0, 6, .inl (rowF (fun _ => 0))))], [(h + 6, .inl (Y 0, 6, .inl (rowF (fun _ => 0))))], [(h + 7, .inl (Y 0, 18, .inl (rowF (fun _ => 0))))], [(h + 8, .inl (Y 0, 18, .inl (rowF (fun _ => 0))))]] _ _ := hw
  refine lv_aload_n hx hb dX1_init_65 rfl (lv_at hl 0 rfl) ?_
  refine lv_bipush (v := nI 54) hx hb dX1_init_66 (by decide) ?_
  refine x_newa (atype := .int) (kY := 0) (N := 54) (a0 := (54, .inl (rowF (fun _ => 0)))) (z := h + 9) M hK hw mw_102 rfl rfl (by decide) hz (Nat.le_of_ble_eq_true rfl) (Nat.le_of_ble_eq_true rfl) dX1_init_68 (fun H hz hw => ?_)
  have hw : xW G (fun q => h ≤ q) s.heap [[(h, .inr (1, [.ref (h + 1), .ref (h + 2), .ref (h + 3), .ref (h + 4), .ref (h + 5), .ref (h + 6), .ref (h + 7), .ref (h + 8), .null, .null, .int (nI 0), .int (nI 0), .int (nI 0), .int (nI 0), .int (nI 0)]))], [(h + 1, .inl (Y 0, 3, .inl (rowF (fun _ => 0))))], [(h + 2, .inl (Y 0, 3, .inl (rowF (fun _ => 0))))], [(h + 3, .inl (Y 0, 3, .inl (rowF (fun _ => 0))))], [(h + 4, .inl (Y 0, 6, .inl (rowF (fun _ => 0))))], [(h + 5, .inl (Y 0, 6, .inl (rowF (fun _ => 0))))], [(h + 6, .inl (Y 0, 6, .inl (rowF (fun _ => 0))))], [(h + 7, .inl (Y 0, 18, .inl (rowF (fun _ => 0))))], [(h + 8, .inl (Y 0, 18, .inl (rowF (fun _ => 0))))], [(h + 9, .inl (Y 0, 54, .inl (rowF (fun _ => 0))))]] _ _ := hw
  refine x_putF M hK hw 0 0 rfl rfl fp_X1_36 hnm rfl rfl (Nat.le_of_ble_eq_true rfl) dX1_init_70 (fun H locs hw hz2 => ?_)
  have hz := hz2.trans hz
  have hw : xW G (fun q => h ≤ q) s.heap [[(h, .inr (1, [.ref (h + 1), .ref (h + 2), .ref (h + 3), .ref (h + 4), .ref (h + 5), .ref (h + 6), .ref (h + 7), .ref (h + 8), .ref (h + 9), .null, .int (nI 0), .int (nI 0), .int (nI 0), .int (nI 0), .int (nI 0)]))], [(h + 1, .inl (Y 0, 3, .inl (rowF (fun _ => 0))))], [(h + 2, .inl (Y 0, 3, .inl (rowF (fun _ => 0))))], [(h + 3, .inl (Y 0, 3, .inl (rowF (fun _ => 0))))], [(h + 4, .inl (Y 0, 6, .inl (rowF (fun _ => 0))))], [(h + 5, .inl (Y 0, 6, .inl (rowF (fun _ => 0))))], [(h + 6, .inl (Y 0, 6, .inl (rowF (fun _ => 0))))], [(h + 7, .inl (Y 0, 18, .inl (rowF (fun _ => 0))))], [(h + 8, .inl (Y 0, 18, .inl (rowF (fun _ => 0))))], [(h + 9, .inl (Y 0, 54, .inl (rowF (fun _ => 0))))]] _ _ := hw
  refine lv_aload_n hx hb dX1_init_73 rfl (lv_at hl 0 rfl) ?_
  refine lv_bipush (v := nI 18) hx hb dX1_init_74 (by decide) ?_
  refine x_newa (atype := .int) (kY := 0) (N := 18) (a0 := (18, .inl (rowF (fun _ => 0)))) (z := h + 10) M hK hw mw_102 rfl rfl (by decide) hz (Nat.le_of_ble_eq_true rfl) (Nat.le_of_ble_eq_true rfl) dX1_init_76 (fun H hz hw => ?_)
  have hw : xW G (fun q => h ≤ q) s.heap [[(h, .inr (1, [.ref (h + 1), .ref (h + 2), .ref (h + 3), .ref (h + 4), .ref (h + 5), .ref (h + 6), .ref (h + 7), .ref (h + 8), .ref (h + 9), .null, .int (nI 0), .int (nI 0), .int (nI 0), .int (nI 0), .int (nI 0)]))], [(h + 1, .inl (Y 0, 3, .inl (rowF (fun _ => 0))))], [(h + 2, .inl (Y 0, 3, .inl (rowF (fun _ => 0))))], [(h + 3, .inl (Y 0, 3, .inl (rowF (fun _ => 0))))], [(h + 4, .inl (Y 0, 6, .inl (rowF (fun _ => 0))))], [(h + 5, .inl (Y 0, 6, .inl (rowF (fun _ => 0))))], [(h + 6, .inl (Y 0, 6, .inl (rowF (fun _ => 0))))], [(h + 7, .inl (Y 0, 18, .inl (rowF (fun _ => 0))))], [(h + 8, .inl (Y 0, 18, .inl (rowF (fun _ => 0))))], [(h + 9, .inl (Y 0, 54, .inl (rowF (fun _ => 0))))], [(h + 10, .inl (Y 0, 18, .inl (rowF (fun _ => 0))))]] _ _ := hw
  refine x_putF M hK hw 0 0 rfl rfl fp_X1_39 hnm rfl rfl (Nat.le_of_ble_eq_true rfl) dX1_init_78 (fun H locs hw hz2 => ?_)
  have hz := hz2.trans hz
  have hw : xW G (fun q => h ≤ q) s.heap [[(h, .inr (1, [.ref (h + 1), .ref (h + 2), .ref (h + 3), .ref (h + 4), .ref (h + 5), .ref (h + 6), .ref (h + 7), .ref (h + 8), .ref (h + 9), .ref (h + 10), .int (nI 0), .int (nI 0), .int (nI 0), .int (nI 0), .int (nI 0)]))], [(h + 1, .inl (Y 0, 3, .inl (rowF (fun _ => 0))))], [(h + 2, .inl (Y 0, 3, .inl (rowF (fun _ => 0))))], [(h + 3, .inl (Y 0, 3, .inl (rowF (fun _ => 0))))], [(h + 4, .inl (Y 0, 6, .inl (rowF (fun _ => 0))))], [(h + 5, .inl (Y 0, 6, .inl (rowF (fun _ => 0))))], [(h + 6, .inl (Y 0, 6, .inl (rowF (fun _ => 0))))], [(h + 7, .inl (Y 0, 18, .inl (rowF (fun _ => 0))))], [(h + 8, .inl (Y 0, 18, .inl (rowF (fun _ => 0))))], [(h + 9, .inl (Y 0, 54, .inl (rowF (fun _ => 0))))], [(h + 10, .inl (Y 0, 18, .inl (rowF (fun _ => 0))))]] _ _ := hw
  have hw : xW G (fun q => h ≤ q) s.heap [aucR Y h (fun _ => 0) (fun _ => 0) (fun _ => 0) (fun _ => 0) (fun _ => 0) (fun _ => 0) (fun _ => 0) (fun _ => 0) (fun _ => 0) (fun _ => 0) 0 0 0 0 0] _ _ := hw.recut rfl
  refine lv_aload_n hx hb dX1_init_81 rfl (lv_at hl 0 rfl) ?_
  refine x_cVV (As := []) (k_X1_renew l G Y h 0 0 0 0 0 (fun _ => 0) (fun _ => 0) (fun _ => 0) (fun _ => 0) (fun _ => 0) (fun _ => 0) (fun _ => 0) (fun _ => 0) (fun _ => 0) (fun _ => 0)) cw_X1_42 [0] 0 0 M hK hZ hw hl.1 rfl (by decide) rfl rfl rfl ⟨(Nat.le_of_ble_eq_true rfl), (Nat.le_of_ble_eq_true rfl)⟩ ⟨(Nat.le_of_ble_eq_true rfl), (Nat.le_of_ble_eq_true rfl)⟩ rfl rfl (Nat.le_of_ble_eq_true rfl) dX1_init_82 ?_
  rintro sg ⟨γ', rfl⟩ H locs hw
  have hw : xW G (fun q => h ≤ q) s.heap [aucW Y h row0 γ'] _ _ := hw
  refine W_size (by have hlt := ((hw.seg (i := 0) rfl) 10 _ rfl).lt; simp only at hlt; omega) (fun hz => ?_)
  exact hret _ _ _ _ _ dX1_init_85 (by omega) hw ⟨γ', rfl⟩
