set_option maxHeartbeats 4000000 in
set_option maxRecDepth 20000 in
theorem k_X1_renew (l : Launch) (G : va_G) (Y : Nat → Nat) (h n r o u v : Nat) (f0 f1 f2 f3 f4 f5 f6 f7 f8 f9 : Nat → Nat)  : CtV l yX1_renew cX1_renew 2 0 0 [.ref h] [aucR Y h f0 f1 f2 f3 f4 f5 f6 f7 f8 f9 n r o u v] (fun sg => ∃ γ' : Nat → Nat → Nat, sg = [aucW Y h row0 γ']) G Y := by
  refine x_ofV (by decide) (Nat.le_of_ble_eq_true rfl) (fun p e s m args below meth c A ls Q M hK hZ hw hl hret => ?_)
  obtain ⟨hx, hb, -⟩ := id M
  have hl : lv_has ls 2 [(0, .ref h)] := hl
  refine lv_iconst (v := (nI 0)) hx hb dX1_renew_0 (by decide) ?_
  refine lv_istore_n (lv' := [(1, .int (nI 0)), (0, .ref h)]) hx hb dX1_renew_1 rfl hl (by decide) rfl (fun ls hl => ?_)
  refine lv_iload_n hx hb dX1_renew_2 rfl (lv_at hl 0 rfl) ?_
  refine lv_iconst (v := (nI 3)) hx hb dX1_renew_3 (by decide) ?_
  refine x_cge M (tgt := 35) (by decide) (by decide) dX1_renew_4 (by decide) (fun c_1 => absurd c_1 (by decide)) (fun c_1 => ?_)
  refine lv_aload_n hx hb dX1_renew_7 rfl (lv_at hl 1 rfl) ?_
  refine x_get M hK hw 0 0 rfl rfl ff_X1_9 rfl dX1_renew_8 ?_
  refine lv_iload_n hx hb dX1_renew_11 rfl (lv_at hl 0 rfl) ?_
  refine lv_iconst (v := (nI 2)) hx hb dX1_renew_12 (by decide) ?_
  refine x_iast M hK hw 0 1 rfl rfl (by decide) (by decide) dX1_renew_13 (fun H locs hw => ?_)
  rw [upd_row] at hw
  have hw : xW G A s.heap [aucR Y h (setN f0 0 2) f1 f2 f3 f4 f5 f6 f7 f8 f9 n r o u v] H locs := hw
  refine lv_aload_n hx hb dX1_renew_14 rfl (lv_at hl 1 rfl) ?_
  refine x_get M hK hw 0 0 rfl rfl ff_X1_15 rfl dX1_renew_15 ?_
  refine lv_iload_n hx hb dX1_renew_18 rfl (lv_at hl 0 rfl) ?_
  refine lv_iconst (v := (nI 1)) hx hb dX1_renew_19 (by decide) ?_
  refine x_iast M hK hw 0 2 rfl rfl (by decide) (by decide) dX1_renew_20 (fun H locs hw => ?_)
  rw [upd_row] at hw
  have hw : xW G A s.heap [aucR Y h (setN f0 0 2) (setN f1 0 1) f2 f3 f4 f5 f6 f7 f8 f9 n r o u v] H locs := hw
  refine lv_aload_n hx hb dX1_renew_21 rfl (lv_at hl 1 rfl) ?_
  refine x_get M hK hw 0 0 rfl rfl ff_X1_18 rfl dX1_renew_22 ?_
  refine lv_iload_n hx hb dX1_renew_25 rfl (lv_at hl 0 rfl) ?_
  refine lv_bipush (v := (nI 10)) hx hb dX1_renew_26 (by decide) ?_
  refine x_iast M hK hw 0 3 rfl rfl (by decide) (by decide) dX1_renew_28 (fun H locs hw => ?_)
  rw [upd_row] at hw
  have hw : xW G A s.heap [aucR Y h (setN f0 0 2) (setN f1 0 1) (setN f2 0 10) f3 f4 f5 f6 f7 f8 f9 n r o u v] H locs := hw
  refine lv_iinc (v := (nI 1)) (lv' := [(1, .int (nI 1)), (0, .ref h)]) hx hb dX1_renew_29 hl (k := 0) rfl (by decide) (by decide) rfl (fun ls hl => ?_)
  refine lv_goto (tgt := 2) hx hb dX1_renew_32 (by decide) ?_
  refine lv_iload_n hx hb dX1_renew_2 rfl (lv_at hl 0 rfl) ?_
  refine lv_iconst (v := (nI 3)) hx hb dX1_renew_3 (by decide) ?_
  refine x_cge M (tgt := 35) (by decide) (by decide) dX1_renew_4 (by decide) (fun c_2 => absurd c_2 (by decide)) (fun c_2 => ?_)
  refine lv_aload_n hx hb dX1_renew_7 rfl (lv_at hl 1 rfl) ?_
  refine x_get M hK hw 0 0 rfl rfl ff_X1_9 rfl dX1_renew_8 ?_
  refine lv_iload_n hx hb dX1_renew_11 rfl (lv_at hl 0 rfl) ?_
  refine lv_iconst (v := (nI 2)) hx hb dX1_renew_12 (by decide) ?_
  refine x_iast M hK hw 0 1 rfl rfl (by decide) (by decide) dX1_renew_13 (fun H locs hw => ?_)
  rw [upd_row] at hw
  have hw : xW G A s.heap [aucR Y h (setN (setN f0 0 2) 1 2) (setN f1 0 1) (setN f2 0 10) f3 f4 f5 f6 f7 f8 f9 n r o u v] H locs := hw
  refine lv_aload_n hx hb dX1_renew_14 rfl (lv_at hl 1 rfl) ?_
  refine x_get M hK hw 0 0 rfl rfl ff_X1_15 rfl dX1_renew_15 ?_
  refine lv_iload_n hx hb dX1_renew_18 rfl (lv_at hl 0 rfl) ?_
  refine lv_iconst (v := (nI 1)) hx hb dX1_renew_19 (by decide) ?_
  refine x_iast M hK hw 0 2 rfl rfl (by decide) (by decide) dX1_renew_20 (fun H locs hw => ?_)
  rw [upd_row] at hw
  have hw : xW G A s.heap [aucR Y h (setN (setN f0 0 2) 1 2) (setN (setN f1 0 1) 1 1) (setN f2 0 10) f3 f4 f5 f6 f7 f8 f9 n r o u v] H locs := hw
  refine lv_aload_n hx hb dX1_renew_21 rfl (lv_at hl 1 rfl) ?_
  refine x_get M hK hw 0 0 rfl rfl ff_X1_18 rfl dX1_renew_22 ?_
  refine lv_iload_n hx hb dX1_renew_25 rfl (lv_at hl 0 rfl) ?_
  refine lv_bipush (v := (nI 10)) hx hb dX1_renew_26 (by decide) ?_
  refine x_iast M hK hw 0 3 rfl rfl (by decide) (by decide) dX1_renew_28 (fun H locs hw => ?_)
  rw [upd_row] at hw
  have hw : xW G A s.heap [aucR Y h (setN (setN f0 0 2) 1 2) (setN (setN f1 0 1) 1 1) (setN (setN f2 0 10) 1 10) f3 f4 f5 f6 f7 f8 f9 n r o u v] H locs := hw
  refine lv_iinc (v := (nI 2)) (lv' := [(1, .int (nI 2)), (0, .ref h)]) hx hb dX1_renew_29 hl (k := 0) rfl (by decide) (by decide) rfl (fun ls hl => ?_)
  refine lv_goto (tgt := 2) hx hb dX1_renew_32 (by decide) ?_
  refine lv_iload_n hx hb dX1_renew_2 rfl (lv_at hl 0 rfl) ?_
  refine lv_iconst (v := (nI 3)) hx hb dX1_renew_3 (by decide) ?_
  refine x_cge M (tgt := 35) (by decide) (by decide) dX1_renew_4 (by decide) (fun c_3 => absurd c_3 (by decide)) (fun c_3 => ?_)
  refine lv_aload_n hx hb dX1_renew_7 rfl (lv_at hl 1 rfl) ?_
  refine x_get M hK hw 0 0 rfl rfl ff_X1_9 rfl dX1_renew_8 ?_
  refine lv_iload_n hx hb dX1_renew_11 rfl (lv_at hl 0 rfl) ?_
  refine lv_iconst (v := (nI 2)) hx hb dX1_renew_12 (by decide) ?_
  refine x_iast M hK hw 0 1 rfl rfl (by decide) (by decide) dX1_renew_13 (fun H locs hw => ?_)
  rw [upd_row] at hw
  have hw : xW G A s.heap [aucR Y h (setN (setN (setN f0 0 2) 1 2) 2 2) (setN (setN f1 0 1) 1 1) (setN (setN f2 0 10) 1 10) f3 f4 f5 f6 f7 f8 f9 n r o u v] H locs := hw
  refine lv_aload_n hx hb dX1_renew_14 rfl (lv_at hl 1 rfl) ?_
  refine x_get M hK hw 0 0 rfl rfl ff_X1_15 rfl dX1_renew_15 ?_
  refine lv_iload_n hx hb dX1_renew_18 rfl (lv_at hl 0 rfl) ?_
  refine lv_iconst (v := (nI 1)) hx hb dX1_renew_19 (by decide) ?_
  refine x_iast M hK hw 0 2 rfl rfl (by decide) (by decide) dX1_renew_20 (fun H locs hw => ?_)
  rw [upd_row] at hw
  have hw : xW G A s.heap [aucR Y h (setN (setN (setN f0 0 2) 1 2) 2 2) (setN (setN (setN f1 0 1) 1 1) 2 1) (setN (setN f2 0 10) 1 10) f3 f4 f5 f6 f7 f8 f9 n r o u v] H locs := hw
  refine lv_aload_n hx hb dX1_renew_21 rfl (lv_at hl 1 rfl) ?_
  refine x_get M hK hw 0 0 rfl rfl ff_X1_18 rfl dX1_renew_22 ?_
  refine lv_iload_n hx hb dX1_renew_25 rfl (lv_at hl 0 rfl) ?_
  refine lv_bipush (v := (nI 10)) hx hb dX1_renew_26 (by decide) ?_
  refine x_iast M hK hw 0 3 rfl rfl (by decide) (by decide) dX1_renew_28 (fun H locs hw => ?_)
  rw [upd_row] at hw
  have hw : xW G A s.heap [aucR Y h (setN (setN (setN f0 0 2) 1 2) 2 2) (setN (setN (setN f1 0 1) 1 1) 2 1) (setN (setN (setN f2 0 10) 1 10) 2 10) f3 f4 f5 f6 f7 f8 f9 n r o u v] H locs := hw
  refine lv_iinc (v := (nI 3)) (lv' := [(1, .int (nI 3)), (0, .ref h)]) hx hb dX1_renew_29 hl (k := 0) rfl (by decide) (by decide) rfl (fun ls hl => ?_)
  refine lv_goto (tgt := 2) hx hb dX1_renew_32 (by decide) ?_
  refine lv_iload_n hx hb dX1_renew_2 rfl (lv_at hl 0 rfl) ?_
  refine lv_iconst (v := (nI 3)) hx hb dX1_renew_3 (by decide) ?_
  refine x_cge M (tgt := 35) (by decide) (by decide) dX1_renew_4 (by decide) (fun c_4 => ?_) (fun c_4 => absurd c_4 (by decide))
  refine lv_aload_n hx hb dX1_renew_35 rfl (lv_at hl 1 rfl) ?_
  refine lv_iconst (v := (nI 0)) hx hb dX1_renew_36 (by decide) ?_
  refine x_put M hK hw 0 0 rfl rfl fp_X1_45 rfl rfl (Nat.le_of_ble_eq_true rfl) dX1_renew_37 (fun H locs hw => ?_)
  have hw : xW G A s.heap [aucR Y h (setN (setN (setN f0 0 2) 1 2) 2 2) (setN (setN (setN f1 0 1) 1 1) 2 1) (setN (setN (setN f2 0 10) 1 10) 2 10) f3 f4 f5 f6 f7 f8 f9 0 r o u v] H locs := hw
  refine lv_aload_n hx hb dX1_renew_40 rfl (lv_at hl 1 rfl) ?_
  refine lv_iconst (v := (nI 0)) hx hb dX1_renew_41 (by decide) ?_
  refine x_put M hK hw 0 0 rfl rfl fp_X1_49 rfl rfl (Nat.le_of_ble_eq_true rfl) dX1_renew_42 (fun H locs hw => ?_)
  have hw : xW G A s.heap [aucR Y h (setN (setN (setN f0 0 2) 1 2) 2 2) (setN (setN (setN f1 0 1) 1 1) 2 1) (setN (setN (setN f2 0 10) 1 10) 2 10) f3 f4 f5 f6 f7 f8 f9 0 0 o u v] H locs := hw
  refine lv_aload_n hx hb dX1_renew_45 rfl (lv_at hl 1 rfl) ?_
  refine lv_iconst (v := (nI 0)) hx hb dX1_renew_46 (by decide) ?_
  refine x_put M hK hw 0 0 rfl rfl fp_X1_52 rfl rfl (Nat.le_of_ble_eq_true rfl) dX1_renew_47 (fun H locs hw => ?_)
  have hw : xW G A s.heap [aucR Y h (setN (setN (setN f0 0 2) 1 2) 2 2) (setN (setN (setN f1 0 1) 1 1) 2 1) (setN (setN (setN f2 0 10) 1 10) 2 10) f3 f4 f5 f6 f7 f8 f9 0 0 0 u v] H locs := hw
  refine lv_aload_n hx hb dX1_renew_50 rfl (lv_at hl 1 rfl) ?_
  refine lv_bipush (v := (nI 100)) hx hb dX1_renew_51 (by decide) ?_
  refine x_put M hK hw 0 0 rfl rfl fp_X1_56 rfl rfl (Nat.le_of_ble_eq_true rfl) dX1_renew_53 (fun H locs hw => ?_)
  have hw : xW G A s.heap [aucR Y h (setN (setN (setN f0 0 2) 1 2) 2 2) (setN (setN (setN f1 0 1) 1 1) 2 1) (setN (setN (setN f2 0 10) 1 10) 2 10) f3 f4 f5 f6 f7 f8 f9 0 0 0 100 v] H locs := hw
  refine lv_aload_n hx hb dX1_renew_56 rfl (lv_at hl 1 rfl) ?_
  refine lv_bipush (v := (nI 10)) hx hb dX1_renew_57 (by decide) ?_
  refine x_put M hK hw 0 0 rfl rfl fp_X1_59 rfl rfl (Nat.le_of_ble_eq_true rfl) dX1_renew_59 (fun H locs hw => ?_)
  have hw : xW G A s.heap [aucR Y h (setN (setN (setN f0 0 2) 1 2) 2 2) (setN (setN (setN f1 0 1) 1 1) 2 1) (setN (setN (setN f2 0 10) 1 10) 2 10) f3 f4 f5 f6 f7 f8 f9 0 0 0 100 10] H locs := hw
  obtain ⟨γ5, hw⟩ := auc_fold (i := 0) (ρ' := row0) hw rfl rfl rfl rfl rfl rfl (fun k hk => k3 (P := fun k => (setN (setN (setN f0 0 2) 1 2) 2 2) k = row0 (5 + k)) hk rfl rfl rfl) (fun k hk => k3 (P := fun k => (setN (setN (setN f1 0 1) 1 1) 2 1) k = row0 (8 + k)) hk rfl rfl rfl) (fun k hk => k3 (P := fun k => (setN (setN (setN f2 0 10) 1 10) 2 10) k = row0 (11 + k)) hk rfl rfl rfl) (fun b hb => absurd hb (Nat.not_lt_zero _)) (fun b hb => absurd hb (Nat.not_lt_zero _)) (fun b hb => absurd hb (Nat.not_lt_zero _)) (fun b k hb => absurd hb (Nat.not_lt_zero _)) (fun b k hb => absurd hb (Nat.not_lt_zero _)) (fun b i k hb => absurd hb (Nat.not_lt_zero _)) (fun b i hb => absurd hb (Nat.not_lt_zero _))
  have hw : xW G A s.heap [aucW Y h row0 γ5] H locs := hw
  exact hret _ _ _ _ _ dX1_renew_62 hw rfl ⟨_, rfl⟩
set_option maxHeartbeats 4000000 in
set_option maxRecDepth 20000 in
theorem k_X1_become (l : Launch) (G : va_G) (Y : Nat → Nat) (h o : Nat) (ρ : Nat → Nat) (γ : Nat → Nat → Nat) (σ : Nat → Nat) (δ : Nat → Nat → Nat) (hI : Inv σ) : CtV l yX1_become cX1_become 2 1 60 [.ref h, .ref o] [aucW Y h ρ γ, aucW Y o σ δ] (fun sg => sg = [aucW Y h σ δ, aucW Y o σ δ]) G Y := by
  refine x_ofV (by decide) (Nat.le_of_ble_eq_true rfl) (fun p e s m args below meth c A ls Q M hK hZ hw hl hret => ?_)
  obtain ⟨hx, hb, -⟩ := id M
  have hl : lv_has ls 2 [(0, .ref h), (1, .ref o)] := hl
  have := hI.over
  refine lv_aload_n hx hb dX1_become_0 rfl (lv_at hl 1 rfl) ?_
  refine x_get M hK hw 1 0 rfl rfl ff_X1_9 rfl dX1_become_1 ?_
  refine lv_iconst (v := (nI 0)) hx hb dX1_become_4 (by decide) ?_
  refine lv_aload_n hx hb dX1_become_5 rfl (lv_at hl 0 rfl) ?_
  refine x_get M hK hw 0 0 rfl rfl ff_X1_9 rfl dX1_become_6 ?_
  refine lv_iconst (v := (nI 0)) hx hb dX1_become_9 (by decide) ?_
  refine lv_iconst (v := (nI 3)) hx hb dX1_become_10 (by decide) ?_
  refine x_copy M hK hw hl.1 mw_395 mw_348 mw_347 mw_19 1 1 0 1 rfl rfl rfl rfl (by decide) (by decide) (by decide) ⟨by decide, by decide⟩ (Nat.le_of_ble_eq_true rfl) dX1_become_11 (fun H locs hw => ?_)
  rw [cpy_row] at hw
  have hw : xW G A s.heap [aucR Y h (cpyN (supF σ) (supF ρ) 3) (ptsF ρ) (priF ρ) (rgtF ρ γ) (capF ρ γ) (pckF ρ γ) (valF ρ γ) (demF ρ γ) (lotF ρ γ) (worF ρ γ) (ρ 4) (ρ 0) (ρ 1) (ρ 2) (ρ 3), aucW Y o σ δ] H locs := hw
  refine lv_aload_n hx hb dX1_become_14 rfl (lv_at hl 1 rfl) ?_
  refine x_get M hK hw 1 0 rfl rfl ff_X1_15 rfl dX1_become_15 ?_
  refine lv_iconst (v := (nI 0)) hx hb dX1_become_18 (by decide) ?_
  refine lv_aload_n hx hb dX1_become_19 rfl (lv_at hl 0 rfl) ?_
  refine x_get M hK hw 0 0 rfl rfl ff_X1_15 rfl dX1_become_20 ?_
  refine lv_iconst (v := (nI 0)) hx hb dX1_become_23 (by decide) ?_
  refine lv_iconst (v := (nI 3)) hx hb dX1_become_24 (by decide) ?_
  refine x_copy M hK hw hl.1 mw_395 mw_348 mw_347 mw_19 1 2 0 2 rfl rfl rfl rfl (by decide) (by decide) (by decide) ⟨by decide, by decide⟩ (Nat.le_of_ble_eq_true rfl) dX1_become_25 (fun H locs hw => ?_)
  rw [cpy_row] at hw
  have hw : xW G A s.heap [aucR Y h (cpyN (supF σ) (supF ρ) 3) (cpyN (ptsF σ) (ptsF ρ) 3) (priF ρ) (rgtF ρ γ) (capF ρ γ) (pckF ρ γ) (valF ρ γ) (demF ρ γ) (lotF ρ γ) (worF ρ γ) (ρ 4) (ρ 0) (ρ 1) (ρ 2) (ρ 3), aucW Y o σ δ] H locs := hw
  refine lv_aload_n hx hb dX1_become_28 rfl (lv_at hl 1 rfl) ?_
  refine x_get M hK hw 1 0 rfl rfl ff_X1_18 rfl dX1_become_29 ?_
  refine lv_iconst (v := (nI 0)) hx hb dX1_become_32 (by decide) ?_
  refine lv_aload_n hx hb dX1_become_33 rfl (lv_at hl 0 rfl) ?_
  refine x_get M hK hw 0 0 rfl rfl ff_X1_18 rfl dX1_become_34 ?_
  refine lv_iconst (v := (nI 0)) hx hb dX1_become_37 (by decide) ?_
  refine lv_iconst (v := (nI 3)) hx hb dX1_become_38 (by decide) ?_
  refine x_copy M hK hw hl.1 mw_395 mw_348 mw_347 mw_19 1 3 0 3 rfl rfl rfl rfl (by decide) (by decide) (by decide) ⟨by decide, by decide⟩ (Nat.le_of_ble_eq_true rfl) dX1_become_39 (fun H locs hw => ?_)
  rw [cpy_row] at hw
  have hw : xW G A s.heap [aucR Y h (cpyN (supF σ) (supF ρ) 3) (cpyN (ptsF σ) (ptsF ρ) 3) (cpyN (priF σ) (priF ρ) 3) (rgtF ρ γ) (capF ρ γ) (pckF ρ γ) (valF ρ γ) (demF ρ γ) (lotF ρ γ) (worF ρ γ) (ρ 4) (ρ 0) (ρ 1) (ρ 2) (ρ 3), aucW Y o σ δ] H locs := hw
  refine lv_aload_n hx hb dX1_become_42 rfl (lv_at hl 1 rfl) ?_
  refine x_get M hK hw 1 0 rfl rfl ff_X1_21 rfl dX1_become_43 ?_
  refine lv_iconst (v := (nI 0)) hx hb dX1_become_46 (by decide) ?_
  refine lv_aload_n hx hb dX1_become_47 rfl (lv_at hl 0 rfl) ?_
  refine x_get M hK hw 0 0 rfl rfl ff_X1_21 rfl dX1_become_48 ?_
  refine lv_iconst (v := (nI 0)) hx hb dX1_become_51 (by decide) ?_
  refine lv_bipush (v := (nI 6)) hx hb dX1_become_52 (by decide) ?_
  refine x_copy M hK hw hl.1 mw_395 mw_348 mw_347 mw_19 1 4 0 4 rfl rfl rfl rfl (by decide) (by decide) (by decide) ⟨by decide, by decide⟩ (Nat.le_of_ble_eq_true rfl) dX1_become_54 (fun H locs hw => ?_)
  rw [cpy_row] at hw
  have hw : xW G A s.heap [aucR Y h (cpyN (supF σ) (supF ρ) 3) (cpyN (ptsF σ) (ptsF ρ) 3) (cpyN (priF σ) (priF ρ) 3) (cpyN (rgtF σ δ) (rgtF ρ γ) 6) (capF ρ γ) (pckF ρ γ) (valF ρ γ) (demF ρ γ) (lotF ρ γ) (worF ρ γ) (ρ 4) (ρ 0) (ρ 1) (ρ 2) (ρ 3), aucW Y o σ δ] H locs := hw
  refine lv_aload_n hx hb dX1_become_57 rfl (lv_at hl 1 rfl) ?_
  refine x_get M hK hw 1 0 rfl rfl ff_X1_24 rfl dX1_become_58 ?_
  refine lv_iconst (v := (nI 0)) hx hb dX1_become_61 (by decide) ?_
  refine lv_aload_n hx hb dX1_become_62 rfl (lv_at hl 0 rfl) ?_
  refine x_get M hK hw 0 0 rfl rfl ff_X1_24 rfl dX1_become_63 ?_
  refine lv_iconst (v := (nI 0)) hx hb dX1_become_66 (by decide) ?_
  refine lv_bipush (v := (nI 6)) hx hb dX1_become_67 (by decide) ?_
  refine x_copy M hK hw hl.1 mw_395 mw_348 mw_347 mw_19 1 5 0 5 rfl rfl rfl rfl (by decide) (by decide) (by decide) ⟨by decide, by decide⟩ (Nat.le_of_ble_eq_true rfl) dX1_become_69 (fun H locs hw => ?_)
  rw [cpy_row] at hw
  have hw : xW G A s.heap [aucR Y h (cpyN (supF σ) (supF ρ) 3) (cpyN (ptsF σ) (ptsF ρ) 3) (cpyN (priF σ) (priF ρ) 3) (cpyN (rgtF σ δ) (rgtF ρ γ) 6) (cpyN (capF σ δ) (capF ρ γ) 6) (pckF ρ γ) (valF ρ γ) (demF ρ γ) (lotF ρ γ) (worF ρ γ) (ρ 4) (ρ 0) (ρ 1) (ρ 2) (ρ 3), aucW Y o σ δ] H locs := hw
  refine lv_aload_n hx hb dX1_become_72 rfl (lv_at hl 1 rfl) ?_
  refine x_get M hK hw 1 0 rfl rfl ff_X1_27 rfl dX1_become_73 ?_
  refine lv_iconst (v := (nI 0)) hx hb dX1_become_76 (by decide) ?_
  refine lv_aload_n hx hb dX1_become_77 rfl (lv_at hl 0 rfl) ?_
  refine x_get M hK hw 0 0 rfl rfl ff_X1_27 rfl dX1_become_78 ?_
  refine lv_iconst (v := (nI 0)) hx hb dX1_become_81 (by decide) ?_
  refine lv_bipush (v := (nI 6)) hx hb dX1_become_82 (by decide) ?_
  refine x_copy M hK hw hl.1 mw_395 mw_348 mw_347 mw_19 1 6 0 6 rfl rfl rfl rfl (by decide) (by decide) (by decide) ⟨by decide, by decide⟩ (Nat.le_of_ble_eq_true rfl) dX1_become_84 (fun H locs hw => ?_)
  rw [cpy_row] at hw
  have hw : xW G A s.heap [aucR Y h (cpyN (supF σ) (supF ρ) 3) (cpyN (ptsF σ) (ptsF ρ) 3) (cpyN (priF σ) (priF ρ) 3) (cpyN (rgtF σ δ) (rgtF ρ γ) 6) (cpyN (capF σ δ) (capF ρ γ) 6) (cpyN (pckF σ δ) (pckF ρ γ) 6) (valF ρ γ) (demF ρ γ) (lotF ρ γ) (worF ρ γ) (ρ 4) (ρ 0) (ρ 1) (ρ 2) (ρ 3), aucW Y o σ δ] H locs := hw
  refine lv_aload_n hx hb dX1_become_87 rfl (lv_at hl 1 rfl) ?_
  refine x_get M hK hw 1 0 rfl rfl ff_X1_30 rfl dX1_become_88 ?_
  refine lv_iconst (v := (nI 0)) hx hb dX1_become_91 (by decide) ?_
  refine lv_aload_n hx hb dX1_become_92 rfl (lv_at hl 0 rfl) ?_
  refine x_get M hK hw 0 0 rfl rfl ff_X1_30 rfl dX1_become_93 ?_
  refine lv_iconst (v := (nI 0)) hx hb dX1_become_96 (by decide) ?_
  refine lv_bipush (v := (nI 18)) hx hb dX1_become_97 (by decide) ?_
  refine x_copy M hK hw hl.1 mw_395 mw_348 mw_347 mw_19 1 7 0 7 rfl rfl rfl rfl (by decide) (by decide) (by decide) ⟨by decide, by decide⟩ (Nat.le_of_ble_eq_true rfl) dX1_become_99 (fun H locs hw => ?_)
  rw [cpy_row] at hw
  have hw : xW G A s.heap [aucR Y h (cpyN (supF σ) (supF ρ) 3) (cpyN (ptsF σ) (ptsF ρ) 3) (cpyN (priF σ) (priF ρ) 3) (cpyN (rgtF σ δ) (rgtF ρ γ) 6) (cpyN (capF σ δ) (capF ρ γ) 6) (cpyN (pckF σ δ) (pckF ρ γ) 6) (cpyN (valF σ δ) (valF ρ γ) 18) (demF ρ γ) (lotF ρ γ) (worF ρ γ) (ρ 4) (ρ 0) (ρ 1) (ρ 2) (ρ 3), aucW Y o σ δ] H locs := hw
  refine lv_aload_n hx hb dX1_become_102 rfl (lv_at hl 1 rfl) ?_
  refine x_get M hK hw 1 0 rfl rfl ff_X1_33 rfl dX1_become_103 ?_
  refine lv_iconst (v := (nI 0)) hx hb dX1_become_106 (by decide) ?_
  refine lv_aload_n hx hb dX1_become_107 rfl (lv_at hl 0 rfl) ?_
  refine x_get M hK hw 0 0 rfl rfl ff_X1_33 rfl dX1_become_108 ?_
  refine lv_iconst (v := (nI 0)) hx hb dX1_become_111 (by decide) ?_
  refine lv_bipush (v := (nI 18)) hx hb dX1_become_112 (by decide) ?_
  refine x_copy M hK hw hl.1 mw_395 mw_348 mw_347 mw_19 1 8 0 8 rfl rfl rfl rfl (by decide) (by decide) (by decide) ⟨by decide, by decide⟩ (Nat.le_of_ble_eq_true rfl) dX1_become_114 (fun H locs hw => ?_)
  rw [cpy_row] at hw
  have hw : xW G A s.heap [aucR Y h (cpyN (supF σ) (supF ρ) 3) (cpyN (ptsF σ) (ptsF ρ) 3) (cpyN (priF σ) (priF ρ) 3) (cpyN (rgtF σ δ) (rgtF ρ γ) 6) (cpyN (capF σ δ) (capF ρ γ) 6) (cpyN (pckF σ δ) (pckF ρ γ) 6) (cpyN (valF σ δ) (valF ρ γ) 18) (cpyN (demF σ δ) (demF ρ γ) 18) (lotF ρ γ) (worF ρ γ) (ρ 4) (ρ 0) (ρ 1) (ρ 2) (ρ 3), aucW Y o σ δ] H locs := hw
  refine lv_aload_n hx hb dX1_become_117 rfl (lv_at hl 1 rfl) ?_
  refine x_get M hK hw 1 0 rfl rfl ff_X1_36 rfl dX1_become_118 ?_
  refine lv_iconst (v := (nI 0)) hx hb dX1_become_121 (by decide) ?_
  refine lv_aload_n hx hb dX1_become_122 rfl (lv_at hl 0 rfl) ?_
  refine x_get M hK hw 0 0 rfl rfl ff_X1_36 rfl dX1_become_123 ?_
  refine lv_iconst (v := (nI 0)) hx hb dX1_become_126 (by decide) ?_
  refine lv_bipush (v := (nI 54)) hx hb dX1_become_127 (by decide) ?_
  refine x_copy M hK hw hl.1 mw_395 mw_348 mw_347 mw_19 1 9 0 9 rfl rfl rfl rfl (by decide) (by decide) (by decide) ⟨by decide, by decide⟩ (Nat.le_of_ble_eq_true rfl) dX1_become_129 (fun H locs hw => ?_)
  rw [cpy_row] at hw
  have hw : xW G A s.heap [aucR Y h (cpyN (supF σ) (supF ρ) 3) (cpyN (ptsF σ) (ptsF ρ) 3) (cpyN (priF σ) (priF ρ) 3) (cpyN (rgtF σ δ) (rgtF ρ γ) 6) (cpyN (capF σ δ) (capF ρ γ) 6) (cpyN (pckF σ δ) (pckF ρ γ) 6) (cpyN (valF σ δ) (valF ρ γ) 18) (cpyN (demF σ δ) (demF ρ γ) 18) (cpyN (lotF σ δ) (lotF ρ γ) 54) (worF ρ γ) (ρ 4) (ρ 0) (ρ 1) (ρ 2) (ρ 3), aucW Y o σ δ] H locs := hw
  refine lv_aload_n hx hb dX1_become_132 rfl (lv_at hl 1 rfl) ?_
  refine x_get M hK hw 1 0 rfl rfl ff_X1_39 rfl dX1_become_133 ?_
  refine lv_iconst (v := (nI 0)) hx hb dX1_become_136 (by decide) ?_
  refine lv_aload_n hx hb dX1_become_137 rfl (lv_at hl 0 rfl) ?_
  refine x_get M hK hw 0 0 rfl rfl ff_X1_39 rfl dX1_become_138 ?_
  refine lv_iconst (v := (nI 0)) hx hb dX1_become_141 (by decide) ?_
  refine lv_bipush (v := (nI 18)) hx hb dX1_become_142 (by decide) ?_
  refine x_copy M hK hw hl.1 mw_395 mw_348 mw_347 mw_19 1 10 0 10 rfl rfl rfl rfl (by decide) (by decide) (by decide) ⟨by decide, by decide⟩ (Nat.le_of_ble_eq_true rfl) dX1_become_144 (fun H locs hw => ?_)
  rw [cpy_row] at hw
  have hw : xW G A s.heap [aucR Y h (cpyN (supF σ) (supF ρ) 3) (cpyN (ptsF σ) (ptsF ρ) 3) (cpyN (priF σ) (priF ρ) 3) (cpyN (rgtF σ δ) (rgtF ρ γ) 6) (cpyN (capF σ δ) (capF ρ γ) 6) (cpyN (pckF σ δ) (pckF ρ γ) 6) (cpyN (valF σ δ) (valF ρ γ) 18) (cpyN (demF σ δ) (demF ρ γ) 18) (cpyN (lotF σ δ) (lotF ρ γ) 54) (cpyN (worF σ δ) (worF ρ γ) 18) (ρ 4) (ρ 0) (ρ 1) (ρ 2) (ρ 3), aucW Y o σ δ] H locs := hw
  refine lv_aload_n hx hb dX1_become_147 rfl (lv_at hl 0 rfl) ?_
  refine lv_aload_n hx hb dX1_become_148 rfl (lv_at hl 1 rfl) ?_
  refine x_get M hK hw 1 0 rfl rfl ff_X1_45 rfl dX1_become_149 ?_
  refine x_put M hK hw 0 0 rfl rfl fp_X1_45 rfl rfl (Nat.le_of_ble_eq_true rfl) dX1_become_152 (fun H locs hw => ?_)
  have hw : xW G A s.heap [aucR Y h (cpyN (supF σ) (supF ρ) 3) (cpyN (ptsF σ) (ptsF ρ) 3) (cpyN (priF σ) (priF ρ) 3) (cpyN (rgtF σ δ) (rgtF ρ γ) 6) (cpyN (capF σ δ) (capF ρ γ) 6) (cpyN (pckF σ δ) (pckF ρ γ) 6) (cpyN (valF σ δ) (valF ρ γ) 18) (cpyN (demF σ δ) (demF ρ γ) 18) (cpyN (lotF σ δ) (lotF ρ γ) 54) (cpyN (worF σ δ) (worF ρ γ) 18) (σ 4) (ρ 0) (ρ 1) (ρ 2) (ρ 3), aucW Y o σ δ] H locs := hw
  refine lv_aload_n hx hb dX1_become_155 rfl (lv_at hl 0 rfl) ?_
  refine lv_aload_n hx hb dX1_become_156 rfl (lv_at hl 1 rfl) ?_
  refine x_get M hK hw 1 0 rfl rfl ff_X1_49 rfl dX1_become_157 ?_
  refine x_put M hK hw 0 0 rfl rfl fp_X1_49 rfl rfl (Nat.le_of_ble_eq_true rfl) dX1_become_160 (fun H locs hw => ?_)
  have hw : xW G A s.heap [aucR Y h (cpyN (supF σ) (supF ρ) 3) (cpyN (ptsF σ) (ptsF ρ) 3) (cpyN (priF σ) (priF ρ) 3) (cpyN (rgtF σ δ) (rgtF ρ γ) 6) (cpyN (capF σ δ) (capF ρ γ) 6) (cpyN (pckF σ δ) (pckF ρ γ) 6) (cpyN (valF σ δ) (valF ρ γ) 18) (cpyN (demF σ δ) (demF ρ γ) 18) (cpyN (lotF σ δ) (lotF ρ γ) 54) (cpyN (worF σ δ) (worF ρ γ) 18) (σ 4) (σ 0) (ρ 1) (ρ 2) (ρ 3), aucW Y o σ δ] H locs := hw
  refine lv_aload_n hx hb dX1_become_163 rfl (lv_at hl 0 rfl) ?_
  refine lv_aload_n hx hb dX1_become_164 rfl (lv_at hl 1 rfl) ?_
  refine x_get M hK hw 1 0 rfl rfl ff_X1_52 rfl dX1_become_165 ?_
  refine x_put M hK hw 0 0 rfl rfl fp_X1_52 (nI_znar (by omega)) (nI_zfit (by omega)) (Nat.le_of_ble_eq_true rfl) dX1_become_168 (fun H locs hw => ?_)
  have hw : xW G A s.heap [aucR Y h (cpyN (supF σ) (supF ρ) 3) (cpyN (ptsF σ) (ptsF ρ) 3) (cpyN (priF σ) (priF ρ) 3) (cpyN (rgtF σ δ) (rgtF ρ γ) 6) (cpyN (capF σ δ) (capF ρ γ) 6) (cpyN (pckF σ δ) (pckF ρ γ) 6) (cpyN (valF σ δ) (valF ρ γ) 18) (cpyN (demF σ δ) (demF ρ γ) 18) (cpyN (lotF σ δ) (lotF ρ γ) 54) (cpyN (worF σ δ) (worF ρ γ) 18) (σ 4) (σ 0) (σ 1) (ρ 2) (ρ 3), aucW Y o σ δ] H locs := hw
  refine lv_aload_n hx hb dX1_become_171 rfl (lv_at hl 0 rfl) ?_
  refine lv_aload_n hx hb dX1_become_172 rfl (lv_at hl 1 rfl) ?_
  refine x_get M hK hw 1 0 rfl rfl ff_X1_56 rfl dX1_become_173 ?_
  refine x_put M hK hw 0 0 rfl rfl fp_X1_56 rfl rfl (Nat.le_of_ble_eq_true rfl) dX1_become_176 (fun H locs hw => ?_)
  have hw : xW G A s.heap [aucR Y h (cpyN (supF σ) (supF ρ) 3) (cpyN (ptsF σ) (ptsF ρ) 3) (cpyN (priF σ) (priF ρ) 3) (cpyN (rgtF σ δ) (rgtF ρ γ) 6) (cpyN (capF σ δ) (capF ρ γ) 6) (cpyN (pckF σ δ) (pckF ρ γ) 6) (cpyN (valF σ δ) (valF ρ γ) 18) (cpyN (demF σ δ) (demF ρ γ) 18) (cpyN (lotF σ δ) (lotF ρ γ) 54) (cpyN (worF σ δ) (worF ρ γ) 18) (σ 4) (σ 0) (σ 1) (σ 2) (ρ 3), aucW Y o σ δ] H locs := hw
  refine lv_aload_n hx hb dX1_become_179 rfl (lv_at hl 0 rfl) ?_
  refine lv_aload_n hx hb dX1_become_180 rfl (lv_at hl 1 rfl) ?_
  refine x_get M hK hw 1 0 rfl rfl ff_X1_59 rfl dX1_become_181 ?_
  refine x_put M hK hw 0 0 rfl rfl fp_X1_59 rfl rfl (Nat.le_of_ble_eq_true rfl) dX1_become_184 (fun H locs hw => ?_)
  have hw : xW G A s.heap [aucR Y h (cpyN (supF σ) (supF ρ) 3) (cpyN (ptsF σ) (ptsF ρ) 3) (cpyN (priF σ) (priF ρ) 3) (cpyN (rgtF σ δ) (rgtF ρ γ) 6) (cpyN (capF σ δ) (capF ρ γ) 6) (cpyN (pckF σ δ) (pckF ρ γ) 6) (cpyN (valF σ δ) (valF ρ γ) 18) (cpyN (demF σ δ) (demF ρ γ) 18) (cpyN (lotF σ δ) (lotF ρ γ) 54) (cpyN (worF σ δ) (worF ρ γ) 18) (σ 4) (σ 0) (σ 1) (σ 2) (σ 3), aucW Y o σ δ] H locs := hw
  have hw := auc_become (i := 0) (σ := σ) (δ := δ) hw rfl
  have hw : xW G A s.heap [aucW Y h σ δ, aucW Y o σ δ] H locs := hw
  exact hret _ _ _ _ _ dX1_become_187 hw rfl rfl
set_option maxHeartbeats 4000000 in
set_option maxRecDepth 20000 in
theorem k_X6_bidOn (l : Launch) (G : va_G) (Y : Nat → Nat) (a j : Nat) (ρ : Nat → Nat) (hI : Inv ρ) (hj : j < ρ 4) : CtI l yX6_bidOn cX6_bidOn 12 .int 2 43 [.ref a, .int (nI j)] [[(a, .inl (Y 0, 140, .inl (rowF ρ)))]] (fun r sg => r = prof (mBid ρ j) j ∧ sg = [[(a, .inl (Y 0, 140, .inl (rowF (mBid ρ j))))]]) G Y := by
  refine x_ofI (by decide) (Nat.le_of_ble_eq_true rfl) (fun p e s m args below meth c A ls Q M hK hZ hw hl hret => ?_)
  obtain ⟨hx, hb, -⟩ := id M
  have hl : lv_has ls 12 [(0, .ref a), (1, .int (nI j))] := hl
  have := hI.n6
  have := hI.over
  have := hI.keep
  have := hI.stepp
  refine lv_iconst (v := (-1)) hx hb dX6_bidOn_0 (by decide) ?_
  refine lv_istore_n (lv' := [(2, .int (-1)), (0, .ref a), (1, .int (nI j))]) hx hb dX6_bidOn_1 rfl hl (by decide) rfl (fun ls hl => ?_)
  refine lv_lconst (v := 0) hx hb dX6_bidOn_2 (by decide) ?_
  refine lv_lstore_n (lv' := [(3, .long 0), (2, .int (-1)), (0, .ref a), (1, .int (nI j))]) hx hb dX6_bidOn_3 rfl hl (by decide) rfl (fun ls hl => ?_)
  refine lv_iconst (v := (nI 0)) hx hb dX6_bidOn_4 (by decide) ?_
  refine lv_istore (lv' := [(5, .int (nI 0)), (3, .long 0), (2, .int (-1)), (0, .ref a), (1, .int (nI j))]) hx hb dX6_bidOn_5 hl (by decide) rfl (fun ls hl => ?_)
  have L7 : ∀ (fu : Nat) (i : Nat) (x : Int32) (y : Int64), (1000 - i < fu) → (i ≤ 1000) → (BU ρ j i x y) → ∀ (H : Heap) (locs : List Loc), xW G A s.heap [[(a, .inl (Y 0, 140, .inl (rowF ρ)))]] H locs → ∀ (ls : Array Slot), lv_has ls 12 [(0, .ref a), (1, .int (nI j)), (2, .int x), (3, .long y), (5, .int (nI i))] → W p l e (xRm 2 43) s m args below meth c H locs 0 0 Q (F0 m 7 ls []) := by
    intro fu
    induction fu with
    | zero => intro i x y hm; exact absurd hm (Nat.not_lt_zero _)
    | succ fu ih7 =>
      intro i x y hm hi hbu H locs hw ls hl
      have := hI.rgt (j := j) hj rfl
      have := hI.cap (j := j) hj rfl
      refine lv_iload hx hb dX6_bidOn_7 (lv_at hl 4 rfl) ?_
      refine lv_sipush (v := (nI 1000)) hx hb dX6_bidOn_9 (by decide) ?_
      refine x_cge M (tgt := 168) (by omega) (by decide) dX6_bidOn_12 (by decide) (fun c_1 => ?_) (fun c_1 => ?_)
      · obtain rfl : i = 1000 := by omega
        obtain ⟨hx5, hb5⟩ := bu_end hbu
        rw [hx5] at hl
        have hd0 : dig (bsC ρ j) 0 ≤ 9 := dig_9 hb5
        have hd1 : dig (bsC ρ j) 1 ≤ 9 := dig_9 hb5
        have hd2 : dig (bsC ρ j) 2 ≤ 9 := dig_9 hb5
        refine lv_iconst (v := (nI 0)) hx hb dX6_bidOn_168 (by decide) ?_
        refine lv_istore (lv' := [(5, .int (nI 0)), (0, .ref a), (1, .int (nI j)), (2, .int (nI (bsC ρ j))), (3, .long y)]) hx hb dX6_bidOn_169 hl (by decide) rfl (fun ls hl => ?_)
        refine lv_iload hx hb dX6_bidOn_171 (lv_at hl 0 rfl) ?_
        refine lv_iconst (v := (nI 3)) hx hb dX6_bidOn_173 (by decide) ?_
        refine x_cge M (tgt := 200) (by decide) (by decide) dX6_bidOn_174 (by decide) (fun c_2 => absurd c_2 (by decide)) (fun c_2 => ?_)
        refine lv_aload_n hx hb dX6_bidOn_177 rfl (lv_at hl 1 rfl) ?_
        refine lv_iload_n hx hb dX6_bidOn_178 rfl (lv_at hl 2 rfl) ?_
        refine x_cSI (As := [.int (nI j)]) (k_X6_at l G Y j) cw_X6_49 [] M hK hZ hw hl.1 rfl (by decide) ⟨by decide, by decide⟩ ⟨Nat.zero_le _, Nat.zero_le _⟩ rfl rfl (Nat.le_of_ble_eq_true rfl) dX6_bidOn_179 (fun r sg h_3 H locs hw => ?_)
        obtain ⟨rfl, rfl⟩ := h_3
        have hw : xW G A s.heap [[(a, .inl (Y 0, 140, .inl (rowF ρ)))]] H locs := hw
        refine lv_iconst (v := (nI 5)) hx hb dX6_bidOn_182 (by decide) ?_
        refine x_iadd M (n := 19 + 21 * j) dX6_bidOn_183 (by omega) ?_
        refine lv_iload hx hb dX6_bidOn_184 (lv_at hl 0 rfl) ?_
        refine x_iadd M (n := 19 + 21 * j) dX6_bidOn_186 (by omega) ?_
        refine lv_iload_n hx hb dX6_bidOn_187 rfl (lv_at hl 3 rfl) ?_
        refine lv_iload hx hb dX6_bidOn_188 (lv_at hl 0 rfl) ?_
        refine x_cSI (As := [.int (nI (bsC ρ j)), .int (nI 0)]) (k_X6_digit l G Y (bsC ρ j) 0 (by omega) (by omega)) cw_X6_57 [] M hK hZ hw hl.1 rfl (by decide) ⟨by decide, by decide⟩ ⟨Nat.zero_le _, Nat.zero_le _⟩ rfl rfl (Nat.le_of_ble_eq_true rfl) dX6_bidOn_190 (fun r sg h_4 H locs hw => ?_)
        obtain ⟨rfl, rfl⟩ := h_4
        have hw : xW G A s.heap [[(a, .inl (Y 0, 140, .inl (rowF ρ)))]] H locs := hw
        refine x_iast M hK hw 0 0 rfl rfl (by omega) (by decide) dX6_bidOn_193 (fun H locs hw => ?_)
        rw [upd_row] at hw
        have hw : xW G A s.heap [[(a, .inl (Y 0, 140, .inl (rowF (setN ρ (19 + 21 * j) (dig (bsC ρ j) 0)))))]] H locs := hw
        refine lv_iinc (v := (nI 1)) (lv' := [(5, .int (nI 1)), (0, .ref a), (1, .int (nI j)), (2, .int (nI (bsC ρ j))), (3, .long y)]) hx hb dX6_bidOn_194 hl (k := 0) rfl (by decide) (by decide) rfl (fun ls hl => ?_)
        refine lv_goto (tgt := 171) hx hb dX6_bidOn_197 (by decide) ?_
        refine lv_iload hx hb dX6_bidOn_171 (lv_at hl 0 rfl) ?_
        refine lv_iconst (v := (nI 3)) hx hb dX6_bidOn_173 (by decide) ?_
        refine x_cge M (tgt := 200) (by decide) (by decide) dX6_bidOn_174 (by decide) (fun c_5 => absurd c_5 (by decide)) (fun c_5 => ?_)
        refine lv_aload_n hx hb dX6_bidOn_177 rfl (lv_at hl 1 rfl) ?_
        refine lv_iload_n hx hb dX6_bidOn_178 rfl (lv_at hl 2 rfl) ?_
        refine x_cSI (As := [.int (nI j)]) (k_X6_at l G Y j) cw_X6_49 [] M hK hZ hw hl.1 rfl (by decide) ⟨by decide, by decide⟩ ⟨Nat.zero_le _, Nat.zero_le _⟩ rfl rfl (Nat.le_of_ble_eq_true rfl) dX6_bidOn_179 (fun r sg h_6 H locs hw => ?_)
        obtain ⟨rfl, rfl⟩ := h_6
        have hw : xW G A s.heap [[(a, .inl (Y 0, 140, .inl (rowF (setN ρ (19 + 21 * j) (dig (bsC ρ j) 0)))))]] H locs := hw
        refine lv_iconst (v := (nI 5)) hx hb dX6_bidOn_182 (by decide) ?_
        refine x_iadd M (n := 19 + 21 * j) dX6_bidOn_183 (by omega) ?_
        refine lv_iload hx hb dX6_bidOn_184 (lv_at hl 0 rfl) ?_
        refine x_iadd M (n := 20 + 21 * j) dX6_bidOn_186 (by omega) ?_
        refine lv_iload_n hx hb dX6_bidOn_187 rfl (lv_at hl 3 rfl) ?_
        refine lv_iload hx hb dX6_bidOn_188 (lv_at hl 0 rfl) ?_
        refine x_cSI (As := [.int (nI (bsC ρ j)), .int (nI 1)]) (k_X6_digit l G Y (bsC ρ j) 1 (by omega) (by omega)) cw_X6_57 [] M hK hZ hw hl.1 rfl (by decide) ⟨by decide, by decide⟩ ⟨Nat.zero_le _, Nat.zero_le _⟩ rfl rfl (Nat.le_of_ble_eq_true rfl) dX6_bidOn_190 (fun r sg h_7 H locs hw => ?_)
        obtain ⟨rfl, rfl⟩ := h_7
        have hw : xW G A s.heap [[(a, .inl (Y 0, 140, .inl (rowF (setN ρ (19 + 21 * j) (dig (bsC ρ j) 0)))))]] H locs := hw
        refine x_iast M hK hw 0 0 rfl rfl (by omega) (by decide) dX6_bidOn_193 (fun H locs hw => ?_)
        rw [upd_row] at hw
        have hw : xW G A s.heap [[(a, .inl (Y 0, 140, .inl (rowF (setN (setN ρ (19 + 21 * j) (dig (bsC ρ j) 0)) (20 + 21 * j) (dig (bsC ρ j) 1)))))]] H locs := hw
        refine lv_iinc (v := (nI 2)) (lv' := [(5, .int (nI 2)), (0, .ref a), (1, .int (nI j)), (2, .int (nI (bsC ρ j))), (3, .long y)]) hx hb dX6_bidOn_194 hl (k := 0) rfl (by decide) (by decide) rfl (fun ls hl => ?_)
        refine lv_goto (tgt := 171) hx hb dX6_bidOn_197 (by decide) ?_
        refine lv_iload hx hb dX6_bidOn_171 (lv_at hl 0 rfl) ?_
        refine lv_iconst (v := (nI 3)) hx hb dX6_bidOn_173 (by decide) ?_
        refine x_cge M (tgt := 200) (by decide) (by decide) dX6_bidOn_174 (by decide) (fun c_8 => absurd c_8 (by decide)) (fun c_8 => ?_)
        refine lv_aload_n hx hb dX6_bidOn_177 rfl (lv_at hl 1 rfl) ?_
        refine lv_iload_n hx hb dX6_bidOn_178 rfl (lv_at hl 2 rfl) ?_
        refine x_cSI (As := [.int (nI j)]) (k_X6_at l G Y j) cw_X6_49 [] M hK hZ hw hl.1 rfl (by decide) ⟨by decide, by decide⟩ ⟨Nat.zero_le _, Nat.zero_le _⟩ rfl rfl (Nat.le_of_ble_eq_true rfl) dX6_bidOn_179 (fun r sg h_9 H locs hw => ?_)
        obtain ⟨rfl, rfl⟩ := h_9
        have hw : xW G A s.heap [[(a, .inl (Y 0, 140, .inl (rowF (setN (setN ρ (19 + 21 * j) (dig (bsC ρ j) 0)) (20 + 21 * j) (dig (bsC ρ j) 1)))))]] H locs := hw
        refine lv_iconst (v := (nI 5)) hx hb dX6_bidOn_182 (by decide) ?_
        refine x_iadd M (n := 19 + 21 * j) dX6_bidOn_183 (by omega) ?_
        refine lv_iload hx hb dX6_bidOn_184 (lv_at hl 0 rfl) ?_
        refine x_iadd M (n := 21 + 21 * j) dX6_bidOn_186 (by omega) ?_
        refine lv_iload_n hx hb dX6_bidOn_187 rfl (lv_at hl 3 rfl) ?_
        refine lv_iload hx hb dX6_bidOn_188 (lv_at hl 0 rfl) ?_
        refine x_cSI (As := [.int (nI (bsC ρ j)), .int (nI 2)]) (k_X6_digit l G Y (bsC ρ j) 2 (by omega) (by omega)) cw_X6_57 [] M hK hZ hw hl.1 rfl (by decide) ⟨by decide, by decide⟩ ⟨Nat.zero_le _, Nat.zero_le _⟩ rfl rfl (Nat.le_of_ble_eq_true rfl) dX6_bidOn_190 (fun r sg h_10 H locs hw => ?_)
        obtain ⟨rfl, rfl⟩ := h_10
        have hw : xW G A s.heap [[(a, .inl (Y 0, 140, .inl (rowF (setN (setN ρ (19 + 21 * j) (dig (bsC ρ j) 0)) (20 + 21 * j) (dig (bsC ρ j) 1)))))]] H locs := hw
        refine x_iast M hK hw 0 0 rfl rfl (by omega) (by decide) dX6_bidOn_193 (fun H locs hw => ?_)
        rw [upd_row] at hw
        have hw : xW G A s.heap [[(a, .inl (Y 0, 140, .inl (rowF (setN (setN (setN ρ (19 + 21 * j) (dig (bsC ρ j) 0)) (20 + 21 * j) (dig (bsC ρ j) 1)) (21 + 21 * j) (dig (bsC ρ j) 2)))))]] H locs := hw
        refine lv_iinc (v := (nI 3)) (lv' := [(5, .int (nI 3)), (0, .ref a), (1, .int (nI j)), (2, .int (nI (bsC ρ j))), (3, .long y)]) hx hb dX6_bidOn_194 hl (k := 0) rfl (by decide) (by decide) rfl (fun ls hl => ?_)
        refine lv_goto (tgt := 171) hx hb dX6_bidOn_197 (by decide) ?_
        refine lv_iload hx hb dX6_bidOn_171 (lv_at hl 0 rfl) ?_
        refine lv_iconst (v := (nI 3)) hx hb dX6_bidOn_173 (by decide) ?_
        refine x_cge M (tgt := 200) (by decide) (by decide) dX6_bidOn_174 (by decide) (fun c_11 => ?_) (fun c_11 => absurd c_11 (by decide))
        have hw := row_fold (i := 0) (f' := rowF (mBid ρ j)) hw rfl (fun q hq => congrArg nI (by clear hret hw hl M hK hZ hx hb; simp only [mBid, mDem]))
        have hw : xW G A s.heap [[(a, .inl (Y 0, 140, .inl (rowF (mBid ρ j))))]] H locs := hw
        have hI2 := Inv_bid hI hj hb5
        have e4 : mBid ρ j 4 = ρ 4 := mDem_o (by omega)
        refine lv_aload_n hx hb dX6_bidOn_200 rfl (lv_at hl 1 rfl) ?_
        refine lv_iload_n hx hb dX6_bidOn_201 rfl (lv_at hl 2 rfl) ?_
        refine x_cSI (As := [.ref a, .int (nI j)]) (k_X6_profit l G Y a j (mBid ρ j) (hI2) (by omega)) cw_X6_64 [0] M hK hZ hw hl.1 rfl (by decide) ⟨by decide, by decide⟩ ⟨Nat.zero_le _, Nat.zero_le _⟩ rfl rfl (Nat.le_of_ble_eq_true rfl) dX6_bidOn_202 (fun r sg h_12 H locs hw => ?_)
        obtain ⟨rfl, rfl⟩ := h_12
        have hw : xW G A s.heap [[(a, .inl (Y 0, 140, .inl (rowF (mBid ρ j))))]] H locs := hw
        exact hret _ _ _ (prof (mBid ρ j) j) _ _ dX6_bidOn_205 hw rfl rfl ⟨rfl, rfl⟩
      have h9_0 : dig i 0 ≤ 9 := dig_9 (by omega)
      have h9_1 : dig i 1 ≤ 9 := dig_9 (by omega)
      have h9_2 : dig i 2 ≤ 9 := dig_9 (by omega)
      refine lv_lconst (v := 0) hx hb dX6_bidOn_15 (by decide) ?_
      refine lv_lstore (lv' := [(6, .long 0), (0, .ref a), (1, .int (nI j)), (2, .int x), (3, .long y), (5, .int (nI i))]) hx hb dX6_bidOn_16 hl (by decide) rfl (fun ls hl => ?_)
      refine lv_iconst (v := (nI 0)) hx hb dX6_bidOn_18 (by decide) ?_
      refine lv_istore (lv' := [(8, .int (nI 0)), (6, .long 0), (0, .ref a), (1, .int (nI j)), (2, .int x), (3, .long y), (5, .int (nI i))]) hx hb dX6_bidOn_19 hl (by decide) rfl (fun ls hl => ?_)
      refine lv_iconst (v := (nI 1)) hx hb dX6_bidOn_21 (by decide) ?_
      refine lv_istore (lv' := [(9, .int (nI 1)), (8, .int (nI 0)), (6, .long 0), (0, .ref a), (1, .int (nI j)), (2, .int x), (3, .long y), (5, .int (nI i))]) hx hb dX6_bidOn_22 hl (by decide) rfl (fun ls hl => ?_)
      refine lv_iconst (v := (nI 0)) hx hb dX6_bidOn_24 (by decide) ?_
      refine lv_istore (lv' := [(10, .int (nI 0)), (9, .int (nI 1)), (8, .int (nI 0)), (6, .long 0), (0, .ref a), (1, .int (nI j)), (2, .int x), (3, .long y), (5, .int (nI i))]) hx hb dX6_bidOn_25 hl (by decide) rfl (fun ls hl => ?_)
      refine lv_iload hx hb dX6_bidOn_27 (lv_at hl 0 rfl) ?_
      refine lv_iconst (v := (nI 3)) hx hb dX6_bidOn_29 (by decide) ?_
      refine x_cge M (tgt := 126) (by decide) (by decide) dX6_bidOn_30 (by decide) (fun c_13 => absurd c_13 (by decide)) (fun c_13 => ?_)
      refine lv_iload hx hb dX6_bidOn_33 (lv_at hl 8 rfl) ?_
      refine lv_iload hx hb dX6_bidOn_35 (lv_at hl 0 rfl) ?_
      refine x_cSI (As := [.int (nI i), .int (nI 0)]) (k_X6_digit l G Y i 0 (by omega) (by omega)) cw_X6_57 [] M hK hZ hw hl.1 rfl (by decide) ⟨by decide, by decide⟩ ⟨Nat.zero_le _, Nat.zero_le _⟩ rfl rfl (Nat.le_of_ble_eq_true rfl) dX6_bidOn_37 (fun r sg h_14 H locs hw => ?_)
      obtain ⟨rfl, rfl⟩ := h_14
      have hw : xW G A s.heap [[(a, .inl (Y 0, 140, .inl (rowF ρ)))]] H locs := hw
      refine lv_istore (lv' := [(11, .int (nI (dig i 0))), (10, .int (nI 0)), (9, .int (nI 1)), (8, .int (nI 0)), (6, .long 0), (0, .ref a), (1, .int (nI j)), (2, .int x), (3, .long y), (5, .int (nI i))]) hx hb dX6_bidOn_40 hl (by decide) rfl (fun ls hl => ?_)
      have L74 : ∀ (f0 : Bool), (f0 = decide (dig i 0 ≤ most ρ j 0)) → ∀ (H : Heap) (locs : List Loc), xW G A s.heap [[(a, .inl (Y 0, 140, .inl (rowF ρ)))]] H locs → ∀ (ls : Array Slot), lv_has ls 12 [(0, .ref a), (1, .int (nI j)), (2, .int x), (3, .long y), (5, .int (nI i)), (6, .long 0), (8, .int (nI 0)), (9, .int (nI 1)), (10, .int (nI 0)), (11, .int (nI (dig i 0)))] → W p l e (xRm 2 43) s m args below meth c H locs 0 0 Q (F0 m 74 ls [.int (b2i f0)]) := by
        intro f0 hf0 H locs hw ls hl
        refine lv_istore (lv' := [(9, .int (b2i f0)), (0, .ref a), (1, .int (nI j)), (2, .int x), (3, .long y), (5, .int (nI i)), (6, .long 0), (8, .int (nI 0)), (10, .int (nI 0)), (11, .int (nI (dig i 0)))]) hx hb dX6_bidOn_74 hl (by decide) rfl (fun ls hl => ?_)
        refine lv_iload hx hb dX6_bidOn_76 (lv_at hl 7 rfl) ?_
        refine lv_iload hx hb dX6_bidOn_78 (lv_at hl 9 rfl) ?_
        refine lv_aload_n hx hb dX6_bidOn_80 rfl (lv_at hl 1 rfl) ?_
        refine lv_bipush (v := (nI 8)) hx hb dX6_bidOn_81 (by decide) ?_
        refine lv_iload hx hb dX6_bidOn_83 (lv_at hl 8 rfl) ?_
        refine x_iadd M (n := 8) dX6_bidOn_85 rfl ?_
        refine x_iald M hK hw 0 0 rfl rfl (by decide) (by decide) dX6_bidOn_86 ?_
        refine x_topN (n := ρ 8) rfl ?_
        have q_15 : 1 ≤ ρ 8 := (hI.pts (q := 8) (k := 0) (by decide) rfl).1
        have q_16 : ρ 8 ≤ 9 := (hI.pts (q := 8) (k := 0) (by decide) rfl).2
        refine x_imul M (n := (dig i 0) * (ρ 8)) dX6_bidOn_87 rfl ?_
        have q_17 : (dig i 0) * (ρ 8) ≤ 81 := Nat.le_trans (Nat.mul_le_mul (show dig i 0 ≤ 9 by omega) (show ρ 8 ≤ 9 by omega)) (by decide)
        refine x_iadd M (n := ((dig i 0) * (ρ 8))) dX6_bidOn_88 (by omega) ?_
        refine lv_istore (lv' := [(8, .int (nI ((dig i 0) * (ρ 8)))), (9, .int (b2i f0)), (0, .ref a), (1, .int (nI j)), (2, .int x), (3, .long y), (5, .int (nI i)), (6, .long 0), (10, .int (nI 0)), (11, .int (nI (dig i 0)))]) hx hb dX6_bidOn_89 hl (by decide) rfl (fun ls hl => ?_)
        refine lv_lload hx hb dX6_bidOn_91 (lv_at hl 7 rfl) ?_
        refine lv_iload hx hb dX6_bidOn_93 (lv_at hl 9 rfl) ?_
        refine lv_i2l (v := (nI (dig i 0)).toInt64) hx hb dX6_bidOn_95 rfl ?_
        refine lv_aload_n hx hb dX6_bidOn_96 rfl (lv_at hl 2 rfl) ?_
        refine lv_iload_n hx hb dX6_bidOn_97 rfl (lv_at hl 3 rfl) ?_
        refine x_cSI (As := [.int (nI j)]) (k_X6_at l G Y j) cw_X6_49 [] M hK hZ hw hl.1 rfl (by decide) ⟨by decide, by decide⟩ ⟨Nat.zero_le _, Nat.zero_le _⟩ rfl rfl (Nat.le_of_ble_eq_true rfl) dX6_bidOn_98 (fun r sg h_18 H locs hw => ?_)
        obtain ⟨rfl, rfl⟩ := h_18
        have hw : xW G A s.heap [[(a, .inl (Y 0, 140, .inl (rowF ρ)))]] H locs := hw
        refine lv_iconst (v := (nI 2)) hx hb dX6_bidOn_101 (by decide) ?_
        refine x_iadd M (n := 16 + 21 * j) dX6_bidOn_102 (by omega) ?_
        refine lv_iload hx hb dX6_bidOn_103 (lv_at hl 8 rfl) ?_
        refine x_iadd M (n := 16 + 21 * j) dX6_bidOn_105 (by omega) ?_
        refine x_iald M hK hw 0 0 rfl rfl (by omega) (by decide) dX6_bidOn_106 ?_
        refine x_topN (n := ρ (16 + 21 * j)) rfl ?_
        have q_19 : ρ (16 + 21 * j) ≤ 99999 := hI.val (j := j) (by omega) (k := 0) (by decide) (by omega)
        refine lv_aload_n hx hb dX6_bidOn_107 rfl (lv_at hl 2 rfl) ?_
        refine lv_bipush (v := (nI 11)) hx hb dX6_bidOn_108 (by decide) ?_
        refine lv_iload hx hb dX6_bidOn_110 (lv_at hl 8 rfl) ?_
        refine x_iadd M (n := 11) dX6_bidOn_112 rfl ?_
        refine x_iald M hK hw 0 0 rfl rfl (by decide) (by decide) dX6_bidOn_113 ?_
        refine x_topN (n := ρ 11) rfl ?_
        have q_20 : 1 ≤ ρ 11 := (hI.pri (q := 11) (k := 0) (by decide) rfl).1
        have q_21 : ρ 11 ≤ 99999 := (hI.pri (q := 11) (k := 0) (by decide) rfl).2
        refine lv_isub hx hb dX6_bidOn_114 ?_
        refine lv_i2l (v := ((nI (ρ (16 + 21 * j))) - (nI (ρ 11))).toInt64) hx hb dX6_bidOn_115 rfl ?_
        refine lv_lmul hx hb dX6_bidOn_116 ?_
        refine lv_ladd hx hb dX6_bidOn_117 ?_
        refine lv_lstore (lv' := [(6, .long (0 + ((nI (dig i 0)).toInt64 * (((nI (ρ (16 + 21 * j))) - (nI (ρ 11))).toInt64)))), (8, .int (nI ((dig i 0) * (ρ 8)))), (9, .int (b2i f0)), (0, .ref a), (1, .int (nI j)), (2, .int x), (3, .long y), (5, .int (nI i)), (10, .int (nI 0)), (11, .int (nI (dig i 0)))]) hx hb dX6_bidOn_118 hl (by decide) rfl (fun ls hl => ?_)
        refine lv_iinc (v := (nI 1)) (lv' := [(10, .int (nI 1)), (6, .long (0 + ((nI (dig i 0)).toInt64 * (((nI (ρ (16 + 21 * j))) - (nI (ρ 11))).toInt64)))), (8, .int (nI ((dig i 0) * (ρ 8)))), (9, .int (b2i f0)), (0, .ref a), (1, .int (nI j)), (2, .int x), (3, .long y), (5, .int (nI i)), (11, .int (nI (dig i 0)))]) hx hb dX6_bidOn_120 hl (k := 8) rfl (by decide) (by decide) rfl (fun ls hl => ?_)
        refine lv_goto (tgt := 27) hx hb dX6_bidOn_123 (by decide) ?_
        refine lv_iload hx hb dX6_bidOn_27 (lv_at hl 0 rfl) ?_
        refine lv_iconst (v := (nI 3)) hx hb dX6_bidOn_29 (by decide) ?_
        refine x_cge M (tgt := 126) (by decide) (by decide) dX6_bidOn_30 (by decide) (fun c_22 => absurd c_22 (by decide)) (fun c_22 => ?_)
        refine lv_iload hx hb dX6_bidOn_33 (lv_at hl 8 rfl) ?_
        refine lv_iload hx hb dX6_bidOn_35 (lv_at hl 0 rfl) ?_
        refine x_cSI (As := [.int (nI i), .int (nI 1)]) (k_X6_digit l G Y i 1 (by omega) (by omega)) cw_X6_57 [] M hK hZ hw hl.1 rfl (by decide) ⟨by decide, by decide⟩ ⟨Nat.zero_le _, Nat.zero_le _⟩ rfl rfl (Nat.le_of_ble_eq_true rfl) dX6_bidOn_37 (fun r sg h_23 H locs hw => ?_)
        obtain ⟨rfl, rfl⟩ := h_23
        have hw : xW G A s.heap [[(a, .inl (Y 0, 140, .inl (rowF ρ)))]] H locs := hw
        refine lv_istore (lv' := [(11, .int (nI (dig i 1))), (10, .int (nI 1)), (6, .long (0 + ((nI (dig i 0)).toInt64 * (((nI (ρ (16 + 21 * j))) - (nI (ρ 11))).toInt64)))), (8, .int (nI ((dig i 0) * (ρ 8)))), (9, .int (b2i f0)), (0, .ref a), (1, .int (nI j)), (2, .int x), (3, .long y), (5, .int (nI i))]) hx hb dX6_bidOn_40 hl (by decide) rfl (fun ls hl => ?_)
        have L74 : ∀ (f1 : Bool), (f1 = decide (dig i 0 ≤ most ρ j 0 ∧ dig i 1 ≤ most ρ j 1)) → ∀ (H : Heap) (locs : List Loc), xW G A s.heap [[(a, .inl (Y 0, 140, .inl (rowF ρ)))]] H locs → ∀ (ls : Array Slot), lv_has ls 12 [(0, .ref a), (1, .int (nI j)), (2, .int x), (3, .long y), (5, .int (nI i)), (6, .long (0 + ((nI (dig i 0)).toInt64 * (((nI (ρ (16 + 21 * j))) - (nI (ρ 11))).toInt64)))), (8, .int (nI ((dig i 0) * (ρ 8)))), (9, .int (b2i f0)), (10, .int (nI 1)), (11, .int (nI (dig i 1)))] → W p l e (xRm 2 43) s m args below meth c H locs 0 0 Q (F0 m 74 ls [.int (b2i f1)]) := by
          intro f1 hf1 H locs hw ls hl
          refine lv_istore (lv' := [(9, .int (b2i f1)), (0, .ref a), (1, .int (nI j)), (2, .int x), (3, .long y), (5, .int (nI i)), (6, .long (0 + ((nI (dig i 0)).toInt64 * (((nI (ρ (16 + 21 * j))) - (nI (ρ 11))).toInt64)))), (8, .int (nI ((dig i 0) * (ρ 8)))), (10, .int (nI 1)), (11, .int (nI (dig i 1)))]) hx hb dX6_bidOn_74 hl (by decide) rfl (fun ls hl => ?_)
          refine lv_iload hx hb dX6_bidOn_76 (lv_at hl 7 rfl) ?_
          refine lv_iload hx hb dX6_bidOn_78 (lv_at hl 9 rfl) ?_
          refine lv_aload_n hx hb dX6_bidOn_80 rfl (lv_at hl 1 rfl) ?_
          refine lv_bipush (v := (nI 8)) hx hb dX6_bidOn_81 (by decide) ?_
          refine lv_iload hx hb dX6_bidOn_83 (lv_at hl 8 rfl) ?_
          refine x_iadd M (n := 9) dX6_bidOn_85 rfl ?_
          refine x_iald M hK hw 0 0 rfl rfl (by decide) (by decide) dX6_bidOn_86 ?_
          refine x_topN (n := ρ 9) rfl ?_
          have q_24 : 1 ≤ ρ 9 := (hI.pts (q := 9) (k := 1) (by decide) rfl).1
          have q_25 : ρ 9 ≤ 9 := (hI.pts (q := 9) (k := 1) (by decide) rfl).2
          refine x_imul M (n := (dig i 1) * (ρ 9)) dX6_bidOn_87 rfl ?_
          have q_26 : (dig i 1) * (ρ 9) ≤ 81 := Nat.le_trans (Nat.mul_le_mul (show dig i 1 ≤ 9 by omega) (show ρ 9 ≤ 9 by omega)) (by decide)
          refine x_iadd M (n := ((dig i 0) * (ρ 8)) + ((dig i 1) * (ρ 9))) dX6_bidOn_88 rfl ?_
          refine lv_istore (lv' := [(8, .int (nI (((dig i 0) * (ρ 8)) + ((dig i 1) * (ρ 9))))), (9, .int (b2i f1)), (0, .ref a), (1, .int (nI j)), (2, .int x), (3, .long y), (5, .int (nI i)), (6, .long (0 + ((nI (dig i 0)).toInt64 * (((nI (ρ (16 + 21 * j))) - (nI (ρ 11))).toInt64)))), (10, .int (nI 1)), (11, .int (nI (dig i 1)))]) hx hb dX6_bidOn_89 hl (by decide) rfl (fun ls hl => ?_)
          refine lv_lload hx hb dX6_bidOn_91 (lv_at hl 7 rfl) ?_
          refine lv_iload hx hb dX6_bidOn_93 (lv_at hl 9 rfl) ?_
          refine lv_i2l (v := (nI (dig i 1)).toInt64) hx hb dX6_bidOn_95 rfl ?_
          refine lv_aload_n hx hb dX6_bidOn_96 rfl (lv_at hl 2 rfl) ?_
          refine lv_iload_n hx hb dX6_bidOn_97 rfl (lv_at hl 3 rfl) ?_
          refine x_cSI (As := [.int (nI j)]) (k_X6_at l G Y j) cw_X6_49 [] M hK hZ hw hl.1 rfl (by decide) ⟨by decide, by decide⟩ ⟨Nat.zero_le _, Nat.zero_le _⟩ rfl rfl (Nat.le_of_ble_eq_true rfl) dX6_bidOn_98 (fun r sg h_27 H locs hw => ?_)
          obtain ⟨rfl, rfl⟩ := h_27
          have hw : xW G A s.heap [[(a, .inl (Y 0, 140, .inl (rowF ρ)))]] H locs := hw
          refine lv_iconst (v := (nI 2)) hx hb dX6_bidOn_101 (by decide) ?_
          refine x_iadd M (n := 16 + 21 * j) dX6_bidOn_102 (by omega) ?_
          refine lv_iload hx hb dX6_bidOn_103 (lv_at hl 8 rfl) ?_
          refine x_iadd M (n := 17 + 21 * j) dX6_bidOn_105 (by omega) ?_
          refine x_iald M hK hw 0 0 rfl rfl (by omega) (by decide) dX6_bidOn_106 ?_
          refine x_topN (n := ρ (17 + 21 * j)) rfl ?_
          have q_28 : ρ (17 + 21 * j) ≤ 99999 := hI.val (j := j) (by omega) (k := 1) (by decide) (by omega)
          refine lv_aload_n hx hb dX6_bidOn_107 rfl (lv_at hl 2 rfl) ?_
          refine lv_bipush (v := (nI 11)) hx hb dX6_bidOn_108 (by decide) ?_
          refine lv_iload hx hb dX6_bidOn_110 (lv_at hl 8 rfl) ?_
          refine x_iadd M (n := 12) dX6_bidOn_112 rfl ?_
          refine x_iald M hK hw 0 0 rfl rfl (by decide) (by decide) dX6_bidOn_113 ?_
          refine x_topN (n := ρ 12) rfl ?_
          have q_29 : 1 ≤ ρ 12 := (hI.pri (q := 12) (k := 1) (by decide) rfl).1
          have q_30 : ρ 12 ≤ 99999 := (hI.pri (q := 12) (k := 1) (by decide) rfl).2
          refine lv_isub hx hb dX6_bidOn_114 ?_
          refine lv_i2l (v := ((nI (ρ (17 + 21 * j))) - (nI (ρ 12))).toInt64) hx hb dX6_bidOn_115 rfl ?_
          refine lv_lmul hx hb dX6_bidOn_116 ?_
          refine lv_ladd hx hb dX6_bidOn_117 ?_
          refine lv_lstore (lv' := [(6, .long ((0 + ((nI (dig i 0)).toInt64 * (((nI (ρ (16 + 21 * j))) - (nI (ρ 11))).toInt64))) + ((nI (dig i 1)).toInt64 * (((nI (ρ (17 + 21 * j))) - (nI (ρ 12))).toInt64)))), (8, .int (nI (((dig i 0) * (ρ 8)) + ((dig i 1) * (ρ 9))))), (9, .int (b2i f1)), (0, .ref a), (1, .int (nI j)), (2, .int x), (3, .long y), (5, .int (nI i)), (10, .int (nI 1)), (11, .int (nI (dig i 1)))]) hx hb dX6_bidOn_118 hl (by decide) rfl (fun ls hl => ?_)
          refine lv_iinc (v := (nI 2)) (lv' := [(10, .int (nI 2)), (6, .long ((0 + ((nI (dig i 0)).toInt64 * (((nI (ρ (16 + 21 * j))) - (nI (ρ 11))).toInt64))) + ((nI (dig i 1)).toInt64 * (((nI (ρ (17 + 21 * j))) - (nI (ρ 12))).toInt64)))), (8, .int (nI (((dig i 0) * (ρ 8)) + ((dig i 1) * (ρ 9))))), (9, .int (b2i f1)), (0, .ref a), (1, .int (nI j)), (2, .int x), (3, .long y), (5, .int (nI i)), (11, .int (nI (dig i 1)))]) hx hb dX6_bidOn_120 hl (k := 8) rfl (by decide) (by decide) rfl (fun ls hl => ?_)
          refine lv_goto (tgt := 27) hx hb dX6_bidOn_123 (by decide) ?_
          refine lv_iload hx hb dX6_bidOn_27 (lv_at hl 0 rfl) ?_
          refine lv_iconst (v := (nI 3)) hx hb dX6_bidOn_29 (by decide) ?_
          refine x_cge M (tgt := 126) (by decide) (by decide) dX6_bidOn_30 (by decide) (fun c_31 => absurd c_31 (by decide)) (fun c_31 => ?_)
          refine lv_iload hx hb dX6_bidOn_33 (lv_at hl 8 rfl) ?_
          refine lv_iload hx hb dX6_bidOn_35 (lv_at hl 0 rfl) ?_
          refine x_cSI (As := [.int (nI i), .int (nI 2)]) (k_X6_digit l G Y i 2 (by omega) (by omega)) cw_X6_57 [] M hK hZ hw hl.1 rfl (by decide) ⟨by decide, by decide⟩ ⟨Nat.zero_le _, Nat.zero_le _⟩ rfl rfl (Nat.le_of_ble_eq_true rfl) dX6_bidOn_37 (fun r sg h_32 H locs hw => ?_)
          obtain ⟨rfl, rfl⟩ := h_32
          have hw : xW G A s.heap [[(a, .inl (Y 0, 140, .inl (rowF ρ)))]] H locs := hw
          refine lv_istore (lv' := [(11, .int (nI (dig i 2))), (10, .int (nI 2)), (6, .long ((0 + ((nI (dig i 0)).toInt64 * (((nI (ρ (16 + 21 * j))) - (nI (ρ 11))).toInt64))) + ((nI (dig i 1)).toInt64 * (((nI (ρ (17 + 21 * j))) - (nI (ρ 12))).toInt64)))), (8, .int (nI (((dig i 0) * (ρ 8)) + ((dig i 1) * (ρ 9))))), (9, .int (b2i f1)), (0, .ref a), (1, .int (nI j)), (2, .int x), (3, .long y), (5, .int (nI i))]) hx hb dX6_bidOn_40 hl (by decide) rfl (fun ls hl => ?_)
          have L74 : ∀ (f2 : Bool), (f2 = decide (dig i 0 ≤ most ρ j 0 ∧ dig i 1 ≤ most ρ j 1 ∧ dig i 2 ≤ most ρ j 2)) → ∀ (H : Heap) (locs : List Loc), xW G A s.heap [[(a, .inl (Y 0, 140, .inl (rowF ρ)))]] H locs → ∀ (ls : Array Slot), lv_has ls 12 [(0, .ref a), (1, .int (nI j)), (2, .int x), (3, .long y), (5, .int (nI i)), (6, .long ((0 + ((nI (dig i 0)).toInt64 * (((nI (ρ (16 + 21 * j))) - (nI (ρ 11))).toInt64))) + ((nI (dig i 1)).toInt64 * (((nI (ρ (17 + 21 * j))) - (nI (ρ 12))).toInt64)))), (8, .int (nI (((dig i 0) * (ρ 8)) + ((dig i 1) * (ρ 9))))), (9, .int (b2i f1)), (10, .int (nI 2)), (11, .int (nI (dig i 2)))] → W p l e (xRm 2 43) s m args below meth c H locs 0 0 Q (F0 m 74 ls [.int (b2i f2)]) := by
            intro f2 hf2 H locs hw ls hl
            refine lv_istore (lv' := [(9, .int (b2i f2)), (0, .ref a), (1, .int (nI j)), (2, .int x), (3, .long y), (5, .int (nI i)), (6, .long ((0 + ((nI (dig i 0)).toInt64 * (((nI (ρ (16 + 21 * j))) - (nI (ρ 11))).toInt64))) + ((nI (dig i 1)).toInt64 * (((nI (ρ (17 + 21 * j))) - (nI (ρ 12))).toInt64)))), (8, .int (nI (((dig i 0) * (ρ 8)) + ((dig i 1) * (ρ 9))))), (10, .int (nI 2)), (11, .int (nI (dig i 2)))]) hx hb dX6_bidOn_74 hl (by decide) rfl (fun ls hl => ?_)
            refine lv_iload hx hb dX6_bidOn_76 (lv_at hl 7 rfl) ?_
            refine lv_iload hx hb dX6_bidOn_78 (lv_at hl 9 rfl) ?_
            refine lv_aload_n hx hb dX6_bidOn_80 rfl (lv_at hl 1 rfl) ?_
            refine lv_bipush (v := (nI 8)) hx hb dX6_bidOn_81 (by decide) ?_
            refine lv_iload hx hb dX6_bidOn_83 (lv_at hl 8 rfl) ?_
            refine x_iadd M (n := 10) dX6_bidOn_85 rfl ?_
            refine x_iald M hK hw 0 0 rfl rfl (by decide) (by decide) dX6_bidOn_86 ?_
            refine x_topN (n := ρ 10) rfl ?_
            have q_33 : 1 ≤ ρ 10 := (hI.pts (q := 10) (k := 2) (by decide) rfl).1
            have q_34 : ρ 10 ≤ 9 := (hI.pts (q := 10) (k := 2) (by decide) rfl).2
            refine x_imul M (n := (dig i 2) * (ρ 10)) dX6_bidOn_87 rfl ?_
            have q_35 : (dig i 2) * (ρ 10) ≤ 81 := Nat.le_trans (Nat.mul_le_mul (show dig i 2 ≤ 9 by omega) (show ρ 10 ≤ 9 by omega)) (by decide)
            refine x_iadd M (n := ((dig i 0) * (ρ 8)) + ((dig i 1) * (ρ 9)) + ((dig i 2) * (ρ 10))) dX6_bidOn_88 rfl ?_
            refine lv_istore (lv' := [(8, .int (nI (((dig i 0) * (ρ 8)) + ((dig i 1) * (ρ 9)) + ((dig i 2) * (ρ 10))))), (9, .int (b2i f2)), (0, .ref a), (1, .int (nI j)), (2, .int x), (3, .long y), (5, .int (nI i)), (6, .long ((0 + ((nI (dig i 0)).toInt64 * (((nI (ρ (16 + 21 * j))) - (nI (ρ 11))).toInt64))) + ((nI (dig i 1)).toInt64 * (((nI (ρ (17 + 21 * j))) - (nI (ρ 12))).toInt64)))), (10, .int (nI 2)), (11, .int (nI (dig i 2)))]) hx hb dX6_bidOn_89 hl (by decide) rfl (fun ls hl => ?_)
            refine lv_lload hx hb dX6_bidOn_91 (lv_at hl 7 rfl) ?_
            refine lv_iload hx hb dX6_bidOn_93 (lv_at hl 9 rfl) ?_
            refine lv_i2l (v := (nI (dig i 2)).toInt64) hx hb dX6_bidOn_95 rfl ?_
            refine lv_aload_n hx hb dX6_bidOn_96 rfl (lv_at hl 2 rfl) ?_
            refine lv_iload_n hx hb dX6_bidOn_97 rfl (lv_at hl 3 rfl) ?_
            refine x_cSI (As := [.int (nI j)]) (k_X6_at l G Y j) cw_X6_49 [] M hK hZ hw hl.1 rfl (by decide) ⟨by decide, by decide⟩ ⟨Nat.zero_le _, Nat.zero_le _⟩ rfl rfl (Nat.le_of_ble_eq_true rfl) dX6_bidOn_98 (fun r sg h_36 H locs hw => ?_)
            obtain ⟨rfl, rfl⟩ := h_36
            have hw : xW G A s.heap [[(a, .inl (Y 0, 140, .inl (rowF ρ)))]] H locs := hw
            refine lv_iconst (v := (nI 2)) hx hb dX6_bidOn_101 (by decide) ?_
            refine x_iadd M (n := 16 + 21 * j) dX6_bidOn_102 (by omega) ?_
            refine lv_iload hx hb dX6_bidOn_103 (lv_at hl 8 rfl) ?_
            refine x_iadd M (n := 18 + 21 * j) dX6_bidOn_105 (by omega) ?_
            refine x_iald M hK hw 0 0 rfl rfl (by omega) (by decide) dX6_bidOn_106 ?_
            refine x_topN (n := ρ (18 + 21 * j)) rfl ?_
            have q_37 : ρ (18 + 21 * j) ≤ 99999 := hI.val (j := j) (by omega) (k := 2) (by decide) (by omega)
            refine lv_aload_n hx hb dX6_bidOn_107 rfl (lv_at hl 2 rfl) ?_
            refine lv_bipush (v := (nI 11)) hx hb dX6_bidOn_108 (by decide) ?_
            refine lv_iload hx hb dX6_bidOn_110 (lv_at hl 8 rfl) ?_
            refine x_iadd M (n := 13) dX6_bidOn_112 rfl ?_
            refine x_iald M hK hw 0 0 rfl rfl (by decide) (by decide) dX6_bidOn_113 ?_
            refine x_topN (n := ρ 13) rfl ?_
            have q_38 : 1 ≤ ρ 13 := (hI.pri (q := 13) (k := 2) (by decide) rfl).1
            have q_39 : ρ 13 ≤ 99999 := (hI.pri (q := 13) (k := 2) (by decide) rfl).2
            refine lv_isub hx hb dX6_bidOn_114 ?_
            refine lv_i2l (v := ((nI (ρ (18 + 21 * j))) - (nI (ρ 13))).toInt64) hx hb dX6_bidOn_115 rfl ?_
            refine lv_lmul hx hb dX6_bidOn_116 ?_
            refine lv_ladd hx hb dX6_bidOn_117 ?_
            refine lv_lstore (lv' := [(6, .long (((0 + ((nI (dig i 0)).toInt64 * (((nI (ρ (16 + 21 * j))) - (nI (ρ 11))).toInt64))) + ((nI (dig i 1)).toInt64 * (((nI (ρ (17 + 21 * j))) - (nI (ρ 12))).toInt64))) + ((nI (dig i 2)).toInt64 * (((nI (ρ (18 + 21 * j))) - (nI (ρ 13))).toInt64)))), (8, .int (nI (((dig i 0) * (ρ 8)) + ((dig i 1) * (ρ 9)) + ((dig i 2) * (ρ 10))))), (9, .int (b2i f2)), (0, .ref a), (1, .int (nI j)), (2, .int x), (3, .long y), (5, .int (nI i)), (10, .int (nI 2)), (11, .int (nI (dig i 2)))]) hx hb dX6_bidOn_118 hl (by decide) rfl (fun ls hl => ?_)
            refine lv_iinc (v := (nI 3)) (lv' := [(10, .int (nI 3)), (6, .long (((0 + ((nI (dig i 0)).toInt64 * (((nI (ρ (16 + 21 * j))) - (nI (ρ 11))).toInt64))) + ((nI (dig i 1)).toInt64 * (((nI (ρ (17 + 21 * j))) - (nI (ρ 12))).toInt64))) + ((nI (dig i 2)).toInt64 * (((nI (ρ (18 + 21 * j))) - (nI (ρ 13))).toInt64)))), (8, .int (nI (((dig i 0) * (ρ 8)) + ((dig i 1) * (ρ 9)) + ((dig i 2) * (ρ 10))))), (9, .int (b2i f2)), (0, .ref a), (1, .int (nI j)), (2, .int x), (3, .long y), (5, .int (nI i)), (11, .int (nI (dig i 2)))]) hx hb dX6_bidOn_120 hl (k := 8) rfl (by decide) (by decide) rfl (fun ls hl => ?_)
            refine lv_goto (tgt := 27) hx hb dX6_bidOn_123 (by decide) ?_
            refine lv_iload hx hb dX6_bidOn_27 (lv_at hl 0 rfl) ?_
            refine lv_iconst (v := (nI 3)) hx hb dX6_bidOn_29 (by decide) ?_
            refine x_cge M (tgt := 126) (by decide) (by decide) dX6_bidOn_30 (by decide) (fun c_40 => ?_) (fun c_40 => absurd c_40 (by decide))
            have hG : (((0 + ((nI (dig i 0)).toInt64 * (((nI (ρ (16 + 21 * j))) - (nI (ρ 11))).toInt64))) + ((nI (dig i 1)).toInt64 * (((nI (ρ (17 + 21 * j))) - (nI (ρ 12))).toInt64))) + ((nI (dig i 2)).toInt64 * (((nI (ρ (18 + 21 * j))) - (nI (ρ 13))).toInt64))) = Int64.ofInt (gnC ρ j i) := by clear hret hw hl M hK hZ hx hb; unfold gnC gn mg; rw [show 16 + 21 * j + 1 = 17 + 21 * j by omega, show 16 + 21 * j + 2 = 18 + 21 * j by omega]; exact gl_eq (by omega) (by omega) (by omega) (by omega) (by omega) (by omega) (by omega) (by omega) (by omega)
            rw [hG] at hl
            refine lv_iload hx hb dX6_bidOn_126 (lv_at hl 3 rfl) ?_
            refine x_beq M (tgt := 162) dX6_bidOn_128 (by decide) (fun c_41 => ?_) (fun c_41 => ?_)
            · refine lv_iinc (v := (nI (1 + i))) (lv' := [(5, .int (nI (1 + i))), (10, .int (nI 3)), (6, .long (Int64.ofInt (gnC ρ j i))), (8, .int (nI (((dig i 0) * (ρ 8)) + ((dig i 1) * (ρ 9)) + ((dig i 2) * (ρ 10))))), (9, .int (b2i f2)), (0, .ref a), (1, .int (nI j)), (2, .int x), (3, .long y), (11, .int (nI (dig i 2)))]) hx hb dX6_bidOn_162 hl (k := 8) rfl (by rw [show (1 : Int) = ((1 : Nat) : Int) from rfl, nI_inc]; exact congrArg nI (by omega)) (by decide) rfl (fun ls hl => ?_)
              refine lv_goto (tgt := 7) hx hb dX6_bidOn_165 (by decide) ?_
              exact ih7 (1 + i) x y (by omega) (by omega) (bu_skip (by clear hret hw hl M hK hZ hx hb; subst hf2; simp only [decide_eq_true_eq, decide_eq_false_iff_not] at c_41; simp only [feaC, fea]; omega) hbu) _ _ hw _ (lv_sub hl [5, 6, 7, 8, 0] rfl)
            refine lv_iload hx hb dX6_bidOn_131 (lv_at hl 2 rfl) ?_
            refine lv_aload_n hx hb dX6_bidOn_133 rfl (lv_at hl 4 rfl) ?_
            refine lv_iload_n hx hb dX6_bidOn_134 rfl (lv_at hl 5 rfl) ?_
            refine x_cSI (As := [.int (nI j)]) (k_X6_at l G Y j) cw_X6_49 [] M hK hZ hw hl.1 rfl (by decide) ⟨by decide, by decide⟩ ⟨Nat.zero_le _, Nat.zero_le _⟩ rfl rfl (Nat.le_of_ble_eq_true rfl) dX6_bidOn_135 (fun r sg h_42 H locs hw => ?_)
            obtain ⟨rfl, rfl⟩ := h_42
            have hw : xW G A s.heap [[(a, .inl (Y 0, 140, .inl (rowF ρ)))]] H locs := hw
            refine lv_iconst (v := (nI 0)) hx hb dX6_bidOn_138 (by decide) ?_
            refine x_iadd M (n := 14 + 21 * j) dX6_bidOn_139 (by omega) ?_
            refine x_iald M hK hw 0 0 rfl rfl (by omega) (by decide) dX6_bidOn_140 ?_
            refine x_topN (n := ρ (14 + 21 * j)) rfl ?_
            have q_43 : ρ (14 + 21 * j) ≤ 99 := hI.rgt (j := j) (by omega) (by omega)
            refine x_cgt M (tgt := 162) (by omega) (by omega) dX6_bidOn_141 (by decide) (fun c_44 => ?_) (fun c_44 => ?_)
            · refine lv_iinc (v := (nI (1 + i))) (lv' := [(5, .int (nI (1 + i))), (10, .int (nI 3)), (6, .long (Int64.ofInt (gnC ρ j i))), (8, .int (nI (((dig i 0) * (ρ 8)) + ((dig i 1) * (ρ 9)) + ((dig i 2) * (ρ 10))))), (9, .int (b2i f2)), (0, .ref a), (1, .int (nI j)), (2, .int x), (3, .long y), (11, .int (nI (dig i 2)))]) hx hb dX6_bidOn_162 hl (k := 8) rfl (by rw [show (1 : Int) = ((1 : Nat) : Int) from rfl, nI_inc]; exact congrArg nI (by omega)) (by decide) rfl (fun ls hl => ?_)
              refine lv_goto (tgt := 7) hx hb dX6_bidOn_165 (by decide) ?_
              exact ih7 (1 + i) x y (by omega) (by omega) (bu_skip (by clear hret hw hl M hK hZ hx hb; subst hf2; simp only [decide_eq_true_eq, decide_eq_false_iff_not] at c_41; simp only [feaC, fea]; omega) hbu) _ _ hw _ (lv_sub hl [5, 6, 7, 8, 0] rfl)
            refine lv_iload_n hx hb dX6_bidOn_144 rfl (lv_at hl 6 rfl) ?_
            refine lv_iconst (v := (-1)) hx hb dX6_bidOn_145 (by decide) ?_
            refine lv_icmp_eq (tgt := 156) hx hb dX6_bidOn_146 (by decide) (fun c_45 => ?_) (fun c_45 => ?_)
            · refine lv_iload hx hb dX6_bidOn_156 (lv_at hl 8 rfl) ?_
              refine lv_istore_n (lv' := [(2, .int (nI i)), (10, .int (nI 3)), (6, .long (Int64.ofInt (gnC ρ j i))), (8, .int (nI (((dig i 0) * (ρ 8)) + ((dig i 1) * (ρ 9)) + ((dig i 2) * (ρ 10))))), (9, .int (b2i f2)), (0, .ref a), (1, .int (nI j)), (3, .long y), (5, .int (nI i)), (11, .int (nI (dig i 2)))]) hx hb dX6_bidOn_158 rfl hl (by decide) rfl (fun ls hl => ?_)
              refine lv_lload hx hb dX6_bidOn_159 (lv_at hl 2 rfl) ?_
              refine lv_lstore_n (lv' := [(3, .long (Int64.ofInt (gnC ρ j i))), (2, .int (nI i)), (10, .int (nI 3)), (6, .long (Int64.ofInt (gnC ρ j i))), (8, .int (nI (((dig i 0) * (ρ 8)) + ((dig i 1) * (ρ 9)) + ((dig i 2) * (ρ 10))))), (9, .int (b2i f2)), (0, .ref a), (1, .int (nI j)), (5, .int (nI i)), (11, .int (nI (dig i 2)))]) hx hb dX6_bidOn_161 rfl hl (by decide) rfl (fun ls hl => ?_)
              refine lv_iinc (v := (nI (1 + i))) (lv' := [(5, .int (nI (1 + i))), (3, .long (Int64.ofInt (gnC ρ j i))), (2, .int (nI i)), (10, .int (nI 3)), (6, .long (Int64.ofInt (gnC ρ j i))), (8, .int (nI (((dig i 0) * (ρ 8)) + ((dig i 1) * (ρ 9)) + ((dig i 2) * (ρ 10))))), (9, .int (b2i f2)), (0, .ref a), (1, .int (nI j)), (11, .int (nI (dig i 2)))]) hx hb dX6_bidOn_162 hl (k := 8) rfl (by rw [show (1 : Int) = ((1 : Nat) : Int) from rfl, nI_inc]; exact congrArg nI (by omega)) (by decide) rfl (fun ls hl => ?_)
              refine lv_goto (tgt := 7) hx hb dX6_bidOn_165 (by decide) ?_
              exact ih7 (1 + i) (nI i) (Int64.ofInt (gnC ρ j i)) (by omega) (by omega) (bu_take hI hj (by omega) (by clear hret hw hl M hK hZ hx hb; subst hf2; simp only [decide_eq_true_eq, decide_eq_false_iff_not] at c_41; simp only [feaC, fea]; omega) (Or.inl c_45) hbu) _ _ hw _ (lv_sub hl [7, 8, 2, 1, 0] rfl)
            refine lv_lload hx hb dX6_bidOn_149 (lv_at hl 1 rfl) ?_
            refine lv_lload_n hx hb dX6_bidOn_151 rfl (lv_at hl 7 rfl) ?_
            refine W.lcmp hx hb dX6_bidOn_152 ?_
            refine lv_if_le (tgt := 162) hx hb dX6_bidOn_153 (by decide) (fun c_46 => ?_) (fun c_46 => ?_)
            · refine lv_iinc (v := (nI (1 + i))) (lv' := [(5, .int (nI (1 + i))), (10, .int (nI 3)), (6, .long (Int64.ofInt (gnC ρ j i))), (8, .int (nI (((dig i 0) * (ρ 8)) + ((dig i 1) * (ρ 9)) + ((dig i 2) * (ρ 10))))), (9, .int (b2i f2)), (0, .ref a), (1, .int (nI j)), (2, .int x), (3, .long y), (11, .int (nI (dig i 2)))]) hx hb dX6_bidOn_162 hl (k := 8) rfl (by rw [show (1 : Int) = ((1 : Nat) : Int) from rfl, nI_inc]; exact congrArg nI (by omega)) (by decide) rfl (fun ls hl => ?_)
              refine lv_goto (tgt := 7) hx hb dX6_bidOn_165 (by decide) ?_
              exact ih7 (1 + i) x y (by omega) (by omega) (bu_leave hI hj (by omega) c_45 (by clear hret hw hl M hK hZ hx hb; simpa only [lg_cmp_le, lg_cmp_gt, Int64.not_le] using c_46) hbu) _ _ hw _ (lv_sub hl [5, 6, 7, 8, 0] rfl)
            refine lv_iload hx hb dX6_bidOn_156 (lv_at hl 8 rfl) ?_
            refine lv_istore_n (lv' := [(2, .int (nI i)), (10, .int (nI 3)), (6, .long (Int64.ofInt (gnC ρ j i))), (8, .int (nI (((dig i 0) * (ρ 8)) + ((dig i 1) * (ρ 9)) + ((dig i 2) * (ρ 10))))), (9, .int (b2i f2)), (0, .ref a), (1, .int (nI j)), (3, .long y), (5, .int (nI i)), (11, .int (nI (dig i 2)))]) hx hb dX6_bidOn_158 rfl hl (by decide) rfl (fun ls hl => ?_)
            refine lv_lload hx hb dX6_bidOn_159 (lv_at hl 2 rfl) ?_
            refine lv_lstore_n (lv' := [(3, .long (Int64.ofInt (gnC ρ j i))), (2, .int (nI i)), (10, .int (nI 3)), (6, .long (Int64.ofInt (gnC ρ j i))), (8, .int (nI (((dig i 0) * (ρ 8)) + ((dig i 1) * (ρ 9)) + ((dig i 2) * (ρ 10))))), (9, .int (b2i f2)), (0, .ref a), (1, .int (nI j)), (5, .int (nI i)), (11, .int (nI (dig i 2)))]) hx hb dX6_bidOn_161 rfl hl (by decide) rfl (fun ls hl => ?_)
            refine lv_iinc (v := (nI (1 + i))) (lv' := [(5, .int (nI (1 + i))), (3, .long (Int64.ofInt (gnC ρ j i))), (2, .int (nI i)), (10, .int (nI 3)), (6, .long (Int64.ofInt (gnC ρ j i))), (8, .int (nI (((dig i 0) * (ρ 8)) + ((dig i 1) * (ρ 9)) + ((dig i 2) * (ρ 10))))), (9, .int (b2i f2)), (0, .ref a), (1, .int (nI j)), (11, .int (nI (dig i 2)))]) hx hb dX6_bidOn_162 hl (k := 8) rfl (by rw [show (1 : Int) = ((1 : Nat) : Int) from rfl, nI_inc]; exact congrArg nI (by omega)) (by decide) rfl (fun ls hl => ?_)
            refine lv_goto (tgt := 7) hx hb dX6_bidOn_165 (by decide) ?_
            exact ih7 (1 + i) (nI i) (Int64.ofInt (gnC ρ j i)) (by omega) (by omega) (bu_take hI hj (by omega) (by clear hret hw hl M hK hZ hx hb; subst hf2; simp only [decide_eq_true_eq, decide_eq_false_iff_not] at c_41; simp only [feaC, fea]; omega) (Or.inr (by clear hret hw hl M hK hZ hx hb; simpa only [lg_cmp_le, lg_cmp_gt, Int64.not_le] using c_46)) hbu) _ _ hw _ (lv_sub hl [7, 8, 2, 1, 0] rfl)
          refine lv_iload hx hb dX6_bidOn_42 (lv_at hl 4 rfl) ?_
          refine x_beq M (tgt := 73) dX6_bidOn_44 (by decide) (fun c_47 => ?_) (fun c_47 => ?_)
          · refine lv_iconst (v := (nI 0)) hx hb dX6_bidOn_73 (by decide) ?_
            exact L74 false (by clear hret hw hl M hK hZ hx hb; subst hf1; simp only [decide_eq_true_eq, decide_eq_false_iff_not] at c_47; simp only [false_eq_decide_iff]; simp only [most, Nat.reduceAdd] at *; omega) _ _ hw _ (lv_sub hl [5, 6, 7, 8, 9, 2, 3, 4, 1, 0] rfl)
          refine lv_iload hx hb dX6_bidOn_47 (lv_at hl 0 rfl) ?_
          refine lv_aload_n hx hb dX6_bidOn_49 rfl (lv_at hl 5 rfl) ?_
          refine lv_iload_n hx hb dX6_bidOn_50 rfl (lv_at hl 6 rfl) ?_
          refine x_cSI (As := [.int (nI j)]) (k_X6_at l G Y j) cw_X6_49 [] M hK hZ hw hl.1 rfl (by decide) ⟨by decide, by decide⟩ ⟨Nat.zero_le _, Nat.zero_le _⟩ rfl rfl (Nat.le_of_ble_eq_true rfl) dX6_bidOn_51 (fun r sg h_48 H locs hw => ?_)
          obtain ⟨rfl, rfl⟩ := h_48
          have hw : xW G A s.heap [[(a, .inl (Y 0, 140, .inl (rowF ρ)))]] H locs := hw
          refine lv_iconst (v := (nI 1)) hx hb dX6_bidOn_54 (by decide) ?_
          refine x_iadd M (n := 15 + 21 * j) dX6_bidOn_55 (by omega) ?_
          refine x_iald M hK hw 0 0 rfl rfl (by omega) (by decide) dX6_bidOn_56 ?_
          refine x_topN (n := ρ (15 + 21 * j)) rfl ?_
          have q_49 : 1 ≤ ρ (15 + 21 * j) := (hI.cap (j := j) (by omega) (by omega)).1
          have q_50 : ρ (15 + 21 * j) ≤ 9 := (hI.cap (j := j) (by omega) (by omega)).2
          refine lv_aload_n hx hb dX6_bidOn_57 rfl (lv_at hl 5 rfl) ?_
          refine lv_iconst (v := (nI 5)) hx hb dX6_bidOn_58 (by decide) ?_
          refine lv_iload hx hb dX6_bidOn_59 (lv_at hl 1 rfl) ?_
          refine x_iadd M (n := 7) dX6_bidOn_61 rfl ?_
          refine x_iald M hK hw 0 0 rfl rfl (by decide) (by decide) dX6_bidOn_62 ?_
          refine x_topN (n := ρ 7) rfl ?_
          have q_51 : 1 ≤ ρ 7 := (hI.sup (q := 7) (k := 2) (by decide) rfl).1
          have q_52 : ρ 7 ≤ 9 := (hI.sup (q := 7) (k := 2) (by decide) rfl).2
          refine x_cSI (As := [.int (nI (ρ (15 + 21 * j))), .int (nI (ρ 7))]) (k_X6_less l G Y (ρ (15 + 21 * j)) (ρ 7) (by omega) (by omega)) cw_X6_61 [] M hK hZ hw hl.1 rfl (by decide) ⟨by decide, by decide⟩ ⟨Nat.zero_le _, Nat.zero_le _⟩ rfl rfl (Nat.le_of_ble_eq_true rfl) dX6_bidOn_63 (fun r sg h_53 H locs hw => ?_)
          obtain ⟨rfl, rfl⟩ := h_53
          have hw : xW G A s.heap [[(a, .inl (Y 0, 140, .inl (rowF ρ)))]] H locs := hw
          refine x_cgt M (tgt := 73) (by omega) (by omega) dX6_bidOn_66 (by decide) (fun c_54 => ?_) (fun c_54 => ?_)
          · refine lv_iconst (v := (nI 0)) hx hb dX6_bidOn_73 (by decide) ?_
            exact L74 false (by clear hret hw hl M hK hZ hx hb; subst hf1; simp only [decide_eq_true_eq, decide_eq_false_iff_not] at c_47; simp only [false_eq_decide_iff]; simp only [most, Nat.reduceAdd] at *; omega) _ _ hw _ (lv_sub hl [5, 6, 7, 8, 9, 2, 3, 4, 1, 0] rfl)
          refine lv_iconst (v := (nI 1)) hx hb dX6_bidOn_69 (by decide) ?_
          refine lv_goto (tgt := 74) hx hb dX6_bidOn_70 (by decide) ?_
          exact L74 true (by clear hret hw hl M hK hZ hx hb; subst hf1; simp only [decide_eq_true_eq, decide_eq_false_iff_not] at c_47; simp only [true_eq_decide_iff]; simp only [most, Nat.reduceAdd] at *; omega) _ _ hw _ (lv_sub hl [5, 6, 7, 8, 9, 2, 3, 4, 1, 0] rfl)
        refine lv_iload hx hb dX6_bidOn_42 (lv_at hl 4 rfl) ?_
        refine x_beq M (tgt := 73) dX6_bidOn_44 (by decide) (fun c_55 => ?_) (fun c_55 => ?_)
        · refine lv_iconst (v := (nI 0)) hx hb dX6_bidOn_73 (by decide) ?_
          exact L74 false (by clear hret hw hl M hK hZ hx hb; subst hf0; simp only [decide_eq_true_eq, decide_eq_false_iff_not] at c_55; simp only [false_eq_decide_iff]; simp only [most, Nat.reduceAdd] at *; omega) _ _ hw _ (lv_sub hl [5, 6, 7, 8, 9, 2, 3, 4, 1, 0] rfl)
        refine lv_iload hx hb dX6_bidOn_47 (lv_at hl 0 rfl) ?_
        refine lv_aload_n hx hb dX6_bidOn_49 rfl (lv_at hl 5 rfl) ?_
        refine lv_iload_n hx hb dX6_bidOn_50 rfl (lv_at hl 6 rfl) ?_
        refine x_cSI (As := [.int (nI j)]) (k_X6_at l G Y j) cw_X6_49 [] M hK hZ hw hl.1 rfl (by decide) ⟨by decide, by decide⟩ ⟨Nat.zero_le _, Nat.zero_le _⟩ rfl rfl (Nat.le_of_ble_eq_true rfl) dX6_bidOn_51 (fun r sg h_56 H locs hw => ?_)
        obtain ⟨rfl, rfl⟩ := h_56
        have hw : xW G A s.heap [[(a, .inl (Y 0, 140, .inl (rowF ρ)))]] H locs := hw
        refine lv_iconst (v := (nI 1)) hx hb dX6_bidOn_54 (by decide) ?_
        refine x_iadd M (n := 15 + 21 * j) dX6_bidOn_55 (by omega) ?_
        refine x_iald M hK hw 0 0 rfl rfl (by omega) (by decide) dX6_bidOn_56 ?_
        refine x_topN (n := ρ (15 + 21 * j)) rfl ?_
        have q_57 : 1 ≤ ρ (15 + 21 * j) := (hI.cap (j := j) (by omega) (by omega)).1
        have q_58 : ρ (15 + 21 * j) ≤ 9 := (hI.cap (j := j) (by omega) (by omega)).2
        refine lv_aload_n hx hb dX6_bidOn_57 rfl (lv_at hl 5 rfl) ?_
        refine lv_iconst (v := (nI 5)) hx hb dX6_bidOn_58 (by decide) ?_
        refine lv_iload hx hb dX6_bidOn_59 (lv_at hl 1 rfl) ?_
        refine x_iadd M (n := 6) dX6_bidOn_61 rfl ?_
        refine x_iald M hK hw 0 0 rfl rfl (by decide) (by decide) dX6_bidOn_62 ?_
        refine x_topN (n := ρ 6) rfl ?_
        have q_59 : 1 ≤ ρ 6 := (hI.sup (q := 6) (k := 1) (by decide) rfl).1
        have q_60 : ρ 6 ≤ 9 := (hI.sup (q := 6) (k := 1) (by decide) rfl).2
        refine x_cSI (As := [.int (nI (ρ (15 + 21 * j))), .int (nI (ρ 6))]) (k_X6_less l G Y (ρ (15 + 21 * j)) (ρ 6) (by omega) (by omega)) cw_X6_61 [] M hK hZ hw hl.1 rfl (by decide) ⟨by decide, by decide⟩ ⟨Nat.zero_le _, Nat.zero_le _⟩ rfl rfl (Nat.le_of_ble_eq_true rfl) dX6_bidOn_63 (fun r sg h_61 H locs hw => ?_)
        obtain ⟨rfl, rfl⟩ := h_61
        have hw : xW G A s.heap [[(a, .inl (Y 0, 140, .inl (rowF ρ)))]] H locs := hw
        refine x_cgt M (tgt := 73) (by omega) (by omega) dX6_bidOn_66 (by decide) (fun c_62 => ?_) (fun c_62 => ?_)
        · refine lv_iconst (v := (nI 0)) hx hb dX6_bidOn_73 (by decide) ?_
          exact L74 false (by clear hret hw hl M hK hZ hx hb; subst hf0; simp only [decide_eq_true_eq, decide_eq_false_iff_not] at c_55; simp only [false_eq_decide_iff]; simp only [most, Nat.reduceAdd] at *; omega) _ _ hw _ (lv_sub hl [5, 6, 7, 8, 9, 2, 3, 4, 1, 0] rfl)
        refine lv_iconst (v := (nI 1)) hx hb dX6_bidOn_69 (by decide) ?_
        refine lv_goto (tgt := 74) hx hb dX6_bidOn_70 (by decide) ?_
        exact L74 true (by clear hret hw hl M hK hZ hx hb; subst hf0; simp only [decide_eq_true_eq, decide_eq_false_iff_not] at c_55; simp only [true_eq_decide_iff]; simp only [most, Nat.reduceAdd] at *; omega) _ _ hw _ (lv_sub hl [5, 6, 7, 8, 9, 2, 3, 4, 1, 0] rfl)
      refine lv_iload hx hb dX6_bidOn_42 (lv_at hl 2 rfl) ?_
      refine x_zeq M (tgt := 73) (by decide) dX6_bidOn_44 (by decide) (fun c_63 => absurd c_63 (by decide)) (fun c_63 => ?_)
      refine lv_iload hx hb dX6_bidOn_47 (lv_at hl 0 rfl) ?_
      refine lv_aload_n hx hb dX6_bidOn_49 rfl (lv_at hl 5 rfl) ?_
      refine lv_iload_n hx hb dX6_bidOn_50 rfl (lv_at hl 6 rfl) ?_
      refine x_cSI (As := [.int (nI j)]) (k_X6_at l G Y j) cw_X6_49 [] M hK hZ hw hl.1 rfl (by decide) ⟨by decide, by decide⟩ ⟨Nat.zero_le _, Nat.zero_le _⟩ rfl rfl (Nat.le_of_ble_eq_true rfl) dX6_bidOn_51 (fun r sg h_64 H locs hw => ?_)
      obtain ⟨rfl, rfl⟩ := h_64
      have hw : xW G A s.heap [[(a, .inl (Y 0, 140, .inl (rowF ρ)))]] H locs := hw
      refine lv_iconst (v := (nI 1)) hx hb dX6_bidOn_54 (by decide) ?_
      refine x_iadd M (n := 15 + 21 * j) dX6_bidOn_55 (by omega) ?_
      refine x_iald M hK hw 0 0 rfl rfl (by omega) (by decide) dX6_bidOn_56 ?_
      refine x_topN (n := ρ (15 + 21 * j)) rfl ?_
      have q_65 : 1 ≤ ρ (15 + 21 * j) := (hI.cap (j := j) (by omega) (by omega)).1
      have q_66 : ρ (15 + 21 * j) ≤ 9 := (hI.cap (j := j) (by omega) (by omega)).2
      refine lv_aload_n hx hb dX6_bidOn_57 rfl (lv_at hl 5 rfl) ?_
      refine lv_iconst (v := (nI 5)) hx hb dX6_bidOn_58 (by decide) ?_
      refine lv_iload hx hb dX6_bidOn_59 (lv_at hl 1 rfl) ?_
      refine x_iadd M (n := 5) dX6_bidOn_61 rfl ?_
      refine x_iald M hK hw 0 0 rfl rfl (by decide) (by decide) dX6_bidOn_62 ?_
      refine x_topN (n := ρ 5) rfl ?_
      have q_67 : 1 ≤ ρ 5 := (hI.sup (q := 5) (k := 0) (by decide) rfl).1
      have q_68 : ρ 5 ≤ 9 := (hI.sup (q := 5) (k := 0) (by decide) rfl).2
      refine x_cSI (As := [.int (nI (ρ (15 + 21 * j))), .int (nI (ρ 5))]) (k_X6_less l G Y (ρ (15 + 21 * j)) (ρ 5) (by omega) (by omega)) cw_X6_61 [] M hK hZ hw hl.1 rfl (by decide) ⟨by decide, by decide⟩ ⟨Nat.zero_le _, Nat.zero_le _⟩ rfl rfl (Nat.le_of_ble_eq_true rfl) dX6_bidOn_63 (fun r sg h_69 H locs hw => ?_)
      obtain ⟨rfl, rfl⟩ := h_69
      have hw : xW G A s.heap [[(a, .inl (Y 0, 140, .inl (rowF ρ)))]] H locs := hw
      refine x_cgt M (tgt := 73) (by omega) (by omega) dX6_bidOn_66 (by decide) (fun c_70 => ?_) (fun c_70 => ?_)
      · refine lv_iconst (v := (nI 0)) hx hb dX6_bidOn_73 (by decide) ?_
        exact L74 false (by clear hret hw hl M hK hZ hx hb; simp only [false_eq_decide_iff]; simp only [most, Nat.reduceAdd] at *; omega) _ _ hw _ (lv_sub hl [5, 6, 7, 8, 9, 4, 3, 2, 1, 0] rfl)
      refine lv_iconst (v := (nI 1)) hx hb dX6_bidOn_69 (by decide) ?_
      refine lv_goto (tgt := 74) hx hb dX6_bidOn_70 (by decide) ?_
      exact L74 true (by clear hret hw hl M hK hZ hx hb; simp only [true_eq_decide_iff]; simp only [most, Nat.reduceAdd] at *; omega) _ _ hw _ (lv_sub hl [5, 6, 7, 8, 9, 4, 3, 2, 1, 0] rfl)
  exact L7 (1000 - 0 + 1) 0 (-1) 0 (Nat.lt_succ_self _) (by omega) (Or.inl ⟨rfl, rfl⟩) _ _ hw _ (lv_sub hl [3, 4, 2, 1, 0] rfl)
set_option maxHeartbeats 4000000 in
set_option maxRecDepth 20000 in
theorem k_X1_bidByValues (l : Launch) (G : va_G) (Y : Nat → Nat) (h j : Nat) (ρ : Nat → Nat) (γ : Nat → Nat → Nat) (hI : Inv ρ) (hj : j < ρ 4) : CtV l yX1_bidByValues cX1_bidByValues 11 3 65 [.ref h, .int (nI j)] [aucW Y h ρ γ] (fun sg => ∃ γ' : Nat → Nat → Nat, sg = [aucW Y h (mBid ρ j) γ']) G Y := by
  refine x_ofV (by decide) (Nat.le_of_ble_eq_true rfl) (fun p e s m args below meth c A ls Q M hK hZ hw hl hret => ?_)
  obtain ⟨hx, hb, -⟩ := id M
  have hl : lv_has ls 11 [(0, .ref h), (1, .int (nI j))] := hl
  have := hI.n6
  have := hI.over
  have := hI.keep
  have := hI.stepp
  refine lv_aload_n hx hb dX1_bidByValues_0 rfl (lv_at hl 0 rfl) ?_
  refine lv_iload_n hx hb dX1_bidByValues_1 rfl (lv_at hl 1 rfl) ?_
  refine lv_iconst (v := (nI 0)) hx hb dX1_bidByValues_2 (by decide) ?_
  refine x_cVI (As := [.int (nI j), .int (nI 0)]) (k_X1_mostWanted l G Y h j 0 ρ γ (hI) (by omega) (by omega)) cw_X1_118 [0] 0 0 M hK hZ hw hl.1 rfl (by decide) rfl rfl rfl ⟨by decide, by decide⟩ ⟨Nat.zero_le _, Nat.zero_le _⟩ rfl rfl (Nat.le_of_ble_eq_true rfl) dX1_bidByValues_3 (fun r sg h_1 H locs hw => ?_)
  obtain ⟨rfl, rfl⟩ := h_1
  have hw : xW G A s.heap [aucW Y h ρ γ] H locs := hw
  have q_2 : wantd ρ j 0 ≤ 9 := wantd_le hI (by omega)
  refine lv_istore_n (lv' := [(2, .int (nI (wantd ρ j 0))), (0, .ref h), (1, .int (nI j))]) hx hb dX1_bidByValues_6 rfl hl (by decide) rfl (fun ls hl => ?_)
  refine lv_aload_n hx hb dX1_bidByValues_7 rfl (lv_at hl 1 rfl) ?_
  refine lv_iload_n hx hb dX1_bidByValues_8 rfl (lv_at hl 2 rfl) ?_
  refine lv_iconst (v := (nI 1)) hx hb dX1_bidByValues_9 (by decide) ?_
  refine x_cVI (As := [.int (nI j), .int (nI 1)]) (k_X1_mostWanted l G Y h j 1 ρ γ (hI) (by omega) (by omega)) cw_X1_118 [0] 0 0 M hK hZ hw hl.1 rfl (by decide) rfl rfl rfl ⟨by decide, by decide⟩ ⟨Nat.zero_le _, Nat.zero_le _⟩ rfl rfl (Nat.le_of_ble_eq_true rfl) dX1_bidByValues_10 (fun r sg h_3 H locs hw => ?_)
  obtain ⟨rfl, rfl⟩ := h_3
  have hw : xW G A s.heap [aucW Y h ρ γ] H locs := hw
  have q_4 : wantd ρ j 1 ≤ 9 := wantd_le hI (by omega)
  refine lv_istore_n (lv' := [(3, .int (nI (wantd ρ j 1))), (2, .int (nI (wantd ρ j 0))), (0, .ref h), (1, .int (nI j))]) hx hb dX1_bidByValues_13 rfl hl (by decide) rfl (fun ls hl => ?_)
  refine lv_aload_n hx hb dX1_bidByValues_14 rfl (lv_at hl 2 rfl) ?_
  refine lv_iload_n hx hb dX1_bidByValues_15 rfl (lv_at hl 3 rfl) ?_
  refine lv_iconst (v := (nI 2)) hx hb dX1_bidByValues_16 (by decide) ?_
  refine x_cVI (As := [.int (nI j), .int (nI 2)]) (k_X1_mostWanted l G Y h j 2 ρ γ (hI) (by omega) (by omega)) cw_X1_118 [0] 0 0 M hK hZ hw hl.1 rfl (by decide) rfl rfl rfl ⟨by decide, by decide⟩ ⟨Nat.zero_le _, Nat.zero_le _⟩ rfl rfl (Nat.le_of_ble_eq_true rfl) dX1_bidByValues_17 (fun r sg h_5 H locs hw => ?_)
  obtain ⟨rfl, rfl⟩ := h_5
  have hw : xW G A s.heap [aucW Y h ρ γ] H locs := hw
  have q_6 : wantd ρ j 2 ≤ 9 := wantd_le hI (by omega)
  refine lv_istore (lv' := [(4, .int (nI (wantd ρ j 2))), (3, .int (nI (wantd ρ j 1))), (2, .int (nI (wantd ρ j 0))), (0, .ref h), (1, .int (nI j))]) hx hb dX1_bidByValues_20 hl (by decide) rfl (fun ls hl => ?_)
  refine lv_iconst (v := (Int32.ofInt (-1))) hx hb dX1_bidByValues_22 (by decide) ?_
  refine lv_istore (lv' := [(5, .int (Int32.ofInt (-1))), (4, .int (nI (wantd ρ j 2))), (3, .int (nI (wantd ρ j 1))), (2, .int (nI (wantd ρ j 0))), (0, .ref h), (1, .int (nI j))]) hx hb dX1_bidByValues_23 hl (by decide) rfl (fun ls hl => ?_)
  refine lv_iconst (v := (nI 0)) hx hb dX1_bidByValues_25 (by decide) ?_
  refine lv_istore (lv' := [(6, .int (nI 0)), (5, .int (Int32.ofInt (-1))), (4, .int (nI (wantd ρ j 2))), (3, .int (nI (wantd ρ j 1))), (2, .int (nI (wantd ρ j 0))), (0, .ref h), (1, .int (nI j))]) hx hb dX1_bidByValues_26 hl (by decide) rfl (fun ls hl => ?_)
  have L28 : ∀ (fu : Nat) (a : Nat) (σ : Nat → Nat) (γs : Nat → Nat → Nat) (g : Int), (1 + wantd ρ j 0 - a < fu) → (a ≤ 1 + wantd ρ j 0) → (CB ρ j a 0 σ g) → ∀ (H : Heap) (locs : List Loc), xW G A s.heap [aucW Y h σ γs] H locs → ∀ (ls : Array Slot), lv_has ls 11 [(0, .ref h), (1, .int (nI j)), (2, .int (nI (wantd ρ j 0))), (3, .int (nI (wantd ρ j 1))), (4, .int (nI (wantd ρ j 2))), (5, .int (Int32.ofInt g)), (6, .int (nI a))] → W p l e (xRm 3 65) s m args below meth c H locs 0 0 Q (F0 m 28 ls []) := by
    intro fu
    induction fu with
    | zero => intro a σ γs g hm; exact absurd hm (Nat.not_lt_zero _)
    | succ fu ih28 =>
      intro a σ γs g hm ha hc H locs hw ls hl
      refine lv_iload hx hb dX1_bidByValues_28 (lv_at hl 6 rfl) ?_
      refine lv_iload_n hx hb dX1_bidByValues_30 rfl (lv_at hl 2 rfl) ?_
      refine x_cgt M (tgt := 162) (by omega) (by omega) dX1_bidByValues_31 (by decide) (fun c_7 => ?_) (fun c_7 => ?_)
      · obtain rfl : a = 1 + wantd ρ j 0 := by omega
        have hE := cb_best hI hj hc
        rw [hE] at hw
        exact hret _ _ _ _ _ dX1_bidByValues_162 hw rfl ⟨_, rfl⟩
      refine lv_iconst (v := (nI 0)) hx hb dX1_bidByValues_34 (by decide) ?_
      refine lv_istore (lv' := [(7, .int (nI 0)), (0, .ref h), (1, .int (nI j)), (2, .int (nI (wantd ρ j 0))), (3, .int (nI (wantd ρ j 1))), (4, .int (nI (wantd ρ j 2))), (5, .int (Int32.ofInt g)), (6, .int (nI a))]) hx hb dX1_bidByValues_35 hl (by decide) rfl (fun ls hl => ?_)
      have L37 : ∀ (fu : Nat) (b : Nat) (τ : Nat → Nat) (γt : Nat → Nat → Nat) (k : Int), (1 + wantd ρ j 1 - b < fu) → (b ≤ 1 + wantd ρ j 1) → (CB ρ j a b τ k) → ∀ (H : Heap) (locs : List Loc), xW G A s.heap [aucW Y h τ γt] H locs → ∀ (ls : Array Slot), lv_has ls 11 [(0, .ref h), (1, .int (nI j)), (2, .int (nI (wantd ρ j 0))), (3, .int (nI (wantd ρ j 1))), (4, .int (nI (wantd ρ j 2))), (5, .int (Int32.ofInt k)), (6, .int (nI a)), (7, .int (nI b))] → W p l e (xRm 3 65) s m args below meth c H locs 0 0 Q (F0 m 37 ls []) := by
        intro fu
        induction fu with
        | zero => intro b τ γt k hm; exact absurd hm (Nat.not_lt_zero _)
        | succ fu ih37 =>
          intro b τ γt k hm hb1 hc2 H locs hw ls hl
          have hIτ := hc2.inv hI hj
          have t14 : τ (14 + 21 * j) = ρ (14 + 21 * j) := hc2.o (by omega)
          have t8 : τ 8 = ρ 8 := hc2.o (by omega)
          have t9 : τ 9 = ρ 9 := hc2.o (by omega)
          have t10 : τ 10 = ρ 10 := hc2.o (by omega)
          have t4 : τ 4 = ρ 4 := hc2.o (by omega)
          have tm0 := hc2.mg (k := 0) (by decide)
          have tm1 := hc2.mg (k := 1) (by decide)
          have tm2 := hc2.mg (k := 2) (by decide)
          refine lv_iload hx hb dX1_bidByValues_37 (lv_at hl 7 rfl) ?_
          refine lv_iload_n hx hb dX1_bidByValues_39 rfl (lv_at hl 3 rfl) ?_
          refine x_cgt M (tgt := 156) (by omega) (by omega) dX1_bidByValues_40 (by decide) (fun c_8 => ?_) (fun c_8 => ?_)
          · refine lv_iinc (v := (nI (1 + a))) (lv' := [(6, .int (nI (1 + a))), (0, .ref h), (1, .int (nI j)), (2, .int (nI (wantd ρ j 0))), (3, .int (nI (wantd ρ j 1))), (4, .int (nI (wantd ρ j 2))), (5, .int (Int32.ofInt k)), (7, .int (nI b))]) hx hb dX1_bidByValues_156 hl (k := 6) rfl (by rw [show (1 : Int) = ((1 : Nat) : Int) from rfl, nI_inc]; exact congrArg nI (by omega)) (by decide) rfl (fun ls hl => ?_)
            refine lv_goto (tgt := 28) hx hb dX1_bidByValues_159 (by decide) ?_
            exact ih28 (1 + a) τ γt k (by omega) (by omega) (cb_row (Or.inl (by omega)) hc2) _ _ hw _ (lv_sub hl [1, 2, 3, 4, 5, 6, 0] rfl)
          refine lv_aload_n hx hb dX1_bidByValues_43 rfl (lv_at hl 0 rfl) ?_
          refine x_get M hK hw 0 0 rfl rfl ff_X1_21 rfl dX1_bidByValues_44 ?_
          refine lv_iload_n hx hb dX1_bidByValues_47 rfl (lv_at hl 1 rfl) ?_
          refine x_iald M hK hw 0 4 rfl rfl (by omega) (by decide) dX1_bidByValues_48 ?_
          refine x_topN (n := τ (14 + 21 * j)) (congrArg nI (rgt_at (j := j) (by omega) rfl (by omega))) ?_
          have q_9 : τ (14 + 21 * j) ≤ 99 := hIτ.rgt (j := j) (by omega) (by omega)
          refine lv_iload hx hb dX1_bidByValues_49 (lv_at hl 6 rfl) ?_
          refine lv_aload_n hx hb dX1_bidByValues_51 rfl (lv_at hl 0 rfl) ?_
          refine x_get M hK hw 0 0 rfl rfl ff_X1_15 rfl dX1_bidByValues_52 ?_
          refine lv_iconst (v := (nI 0)) hx hb dX1_bidByValues_55 (by decide) ?_
          refine x_iald M hK hw 0 2 rfl rfl (by decide) (by decide) dX1_bidByValues_56 ?_
          refine x_topN (n := τ 8) rfl ?_
          have q_10 : 1 ≤ τ 8 := (hIτ.pts (q := 8) (k := 0) (by decide) rfl).1
          have q_11 : τ 8 ≤ 9 := (hIτ.pts (q := 8) (k := 0) (by decide) rfl).2
          refine x_imul M (n := a * (τ 8)) dX1_bidByValues_57 rfl ?_
          have q_12 : a * (τ 8) ≤ 81 := Nat.le_trans (Nat.mul_le_mul (show a ≤ 9 by omega) (show τ 8 ≤ 9 by omega)) (by decide)
          refine lv_isub hx hb dX1_bidByValues_58 ?_
          refine lv_iload hx hb dX1_bidByValues_59 (lv_at hl 7 rfl) ?_
          refine lv_aload_n hx hb dX1_bidByValues_61 rfl (lv_at hl 0 rfl) ?_
          refine x_get M hK hw 0 0 rfl rfl ff_X1_15 rfl dX1_bidByValues_62 ?_
          refine lv_iconst (v := (nI 1)) hx hb dX1_bidByValues_65 (by decide) ?_
          refine x_iald M hK hw 0 2 rfl rfl (by decide) (by decide) dX1_bidByValues_66 ?_
          refine x_topN (n := τ 9) rfl ?_
          have q_13 : 1 ≤ τ 9 := (hIτ.pts (q := 9) (k := 1) (by decide) rfl).1
          have q_14 : τ 9 ≤ 9 := (hIτ.pts (q := 9) (k := 1) (by decide) rfl).2
          refine x_imul M (n := b * (τ 9)) dX1_bidByValues_67 rfl ?_
          have q_15 : b * (τ 9) ≤ 81 := Nat.le_trans (Nat.mul_le_mul (show b ≤ 9 by omega) (show τ 9 ≤ 9 by omega)) (by decide)
          refine lv_isub hx hb dX1_bidByValues_68 ?_
          refine lv_istore (lv' := [(8, .int (((nI (τ (14 + 21 * j))) - (nI (a * (τ 8)))) - (nI (b * (τ 9))))), (0, .ref h), (1, .int (nI j)), (2, .int (nI (wantd ρ j 0))), (3, .int (nI (wantd ρ j 1))), (4, .int (nI (wantd ρ j 2))), (5, .int (Int32.ofInt k)), (6, .int (nI a)), (7, .int (nI b))]) hx hb dX1_bidByValues_69 hl (by decide) rfl (fun ls hl => ?_)
          refine lv_iload hx hb dX1_bidByValues_71 (lv_at hl 0 rfl) ?_
          refine lv_if_ge (tgt := 79) hx hb dX1_bidByValues_73 (by decide) (fun c_16 => ?_) (fun c_16 => ?_)
          · have hsp : a * ρ 8 + b * ρ 9 ≤ ρ (14 + 21 * j) := by clear hret hw hl M hK hZ hx hb; rw [Int32.le_iff_toInt_le, show (0 : Int32).toInt = 0 from rfl, spare_toInt (by omega) (by omega) (by omega)] at c_16; rw [t14, t8, t9] at c_16; omega
            have e8 : (((nI (τ (14 + 21 * j))) - (nI (a * (τ 8)))) - (nI (b * (τ 9)))) = nI (ρ (14 + 21 * j) - (a * ρ 8 + b * ρ 9)) := by rw [t14, t8, t9]; exact spare_nI hsp
            rw [e8] at hl
            refine lv_iload hx hb dX1_bidByValues_79 (lv_at hl 5 rfl) ?_
            refine lv_iload hx hb dX1_bidByValues_81 (lv_at hl 0 rfl) ?_
            refine lv_aload_n hx hb dX1_bidByValues_83 rfl (lv_at hl 1 rfl) ?_
            refine x_get M hK hw 0 0 rfl rfl ff_X1_15 rfl dX1_bidByValues_84 ?_
            refine lv_iconst (v := (nI 2)) hx hb dX1_bidByValues_87 (by decide) ?_
            refine x_iald M hK hw 0 2 rfl rfl (by decide) (by decide) dX1_bidByValues_88 ?_
            refine x_topN (n := τ 10) rfl ?_
            have q_17 : 1 ≤ τ 10 := (hIτ.pts (q := 10) (k := 2) (by decide) rfl).1
            have q_18 : τ 10 ≤ 9 := (hIτ.pts (q := 10) (k := 2) (by decide) rfl).2
            refine x_cNI (As := [.int (nI (ρ (14 + 21 * j) - (a * ρ 8 + b * ρ 9))), .int (nI (τ 10))]) (k_X5_quotient l G Y (ρ (14 + 21 * j) - (a * ρ 8 + b * ρ 9)) (τ 10) (by omega) (by omega) (by omega)) cw_X1_121 [] M hK hZ hw hl.1 rfl (by decide) ⟨by decide, by decide⟩ ⟨Nat.zero_le _, Nat.zero_le _⟩ rfl rfl (Nat.le_of_ble_eq_true rfl) dX1_bidByValues_89 (fun r sg h_19 H locs hw => ?_)
            obtain ⟨rfl, rfl⟩ := h_19
            have hw : xW G A s.heap [aucW Y h τ γt] H locs := hw
            have q_20 : ((ρ (14 + 21 * j) - (a * ρ 8 + b * ρ 9)) / (τ 10)) ≤ (ρ (14 + 21 * j) - (a * ρ 8 + b * ρ 9)) := Nat.div_le_self _ _
            refine x_topN (n := ((ρ (14 + 21 * j) - (a * ρ 8 + b * ρ 9)) / (τ 10))) (congrArg nI (by omega)) ?_
            refine x_min M hl.1 mw_408 mw_231 mw_14 mw_232 ⟨by decide, by decide⟩ ⟨Nat.zero_le _, Nat.zero_le _⟩ (Nat.le_of_ble_eq_true rfl) (by omega) (by omega) dX1_bidByValues_92 ?_
            refine x_topN (n := n2of ρ j a b) (congrArg nI (by simp only [n2of, t10])) ?_
            refine lv_istore (lv' := [(9, .int (nI (n2of ρ j a b))), (8, .int (nI (ρ (14 + 21 * j) - (a * ρ 8 + b * ρ 9)))), (0, .ref h), (1, .int (nI j)), (2, .int (nI (wantd ρ j 0))), (3, .int (nI (wantd ρ j 1))), (4, .int (nI (wantd ρ j 2))), (5, .int (Int32.ofInt k)), (6, .int (nI a)), (7, .int (nI b))]) hx hb dX1_bidByValues_95 hl (by decide) rfl (fun ls hl => ?_)
            refine lv_iload hx hb dX1_bidByValues_97 (lv_at hl 8 rfl) ?_
            refine lv_aload_n hx hb dX1_bidByValues_99 rfl (lv_at hl 2 rfl) ?_
            refine lv_iload_n hx hb dX1_bidByValues_100 rfl (lv_at hl 3 rfl) ?_
            refine lv_iconst (v := (nI 0)) hx hb dX1_bidByValues_101 (by decide) ?_
            refine x_cVI (As := [.int (nI j), .int (nI 0)]) (k_X1_margin l G Y h j 0 τ γt (hIτ) (by omega) (by omega)) cw_X1_80 [0] 0 0 M hK hZ hw hl.1 rfl (by decide) rfl rfl rfl ⟨by decide, by decide⟩ ⟨Nat.zero_le _, Nat.zero_le _⟩ rfl rfl (Nat.le_of_ble_eq_true rfl) dX1_bidByValues_102 (fun r sg h_21 H locs hw => ?_)
            obtain ⟨rfl, rfl⟩ := h_21
            have hw : xW G A s.heap [aucW Y h τ γt] H locs := hw
            refine lv_imul hx hb dX1_bidByValues_105 ?_
            refine lv_iload hx hb dX1_bidByValues_106 (lv_at hl 9 rfl) ?_
            refine lv_aload_n hx hb dX1_bidByValues_108 rfl (lv_at hl 2 rfl) ?_
            refine lv_iload_n hx hb dX1_bidByValues_109 rfl (lv_at hl 3 rfl) ?_
            refine lv_iconst (v := (nI 1)) hx hb dX1_bidByValues_110 (by decide) ?_
            refine x_cVI (As := [.int (nI j), .int (nI 1)]) (k_X1_margin l G Y h j 1 τ γt (hIτ) (by omega) (by omega)) cw_X1_80 [0] 0 0 M hK hZ hw hl.1 rfl (by decide) rfl rfl rfl ⟨by decide, by decide⟩ ⟨Nat.zero_le _, Nat.zero_le _⟩ rfl rfl (Nat.le_of_ble_eq_true rfl) dX1_bidByValues_111 (fun r sg h_22 H locs hw => ?_)
            obtain ⟨rfl, rfl⟩ := h_22
            have hw : xW G A s.heap [aucW Y h τ γt] H locs := hw
            refine lv_imul hx hb dX1_bidByValues_114 ?_
            refine lv_iadd hx hb dX1_bidByValues_115 ?_
            refine lv_iload hx hb dX1_bidByValues_116 (lv_at hl 0 rfl) ?_
            refine lv_aload_n hx hb dX1_bidByValues_118 rfl (lv_at hl 2 rfl) ?_
            refine lv_iload_n hx hb dX1_bidByValues_119 rfl (lv_at hl 3 rfl) ?_
            refine lv_iconst (v := (nI 2)) hx hb dX1_bidByValues_120 (by decide) ?_
            refine x_cVI (As := [.int (nI j), .int (nI 2)]) (k_X1_margin l G Y h j 2 τ γt (hIτ) (by omega) (by omega)) cw_X1_80 [0] 0 0 M hK hZ hw hl.1 rfl (by decide) rfl rfl rfl ⟨by decide, by decide⟩ ⟨Nat.zero_le _, Nat.zero_le _⟩ rfl rfl (Nat.le_of_ble_eq_true rfl) dX1_bidByValues_121 (fun r sg h_23 H locs hw => ?_)
            obtain ⟨rfl, rfl⟩ := h_23
            have hw : xW G A s.heap [aucW Y h τ γt] H locs := hw
            refine lv_imul hx hb dX1_bidByValues_124 ?_
            refine lv_iadd hx hb dX1_bidByValues_125 ?_
            refine x_topI (y := (Int32.ofInt (gv ρ j a b))) (by rw [tm0, tm1, tm2]; exact gi_eq) ?_
            refine lv_istore (lv' := [(10, .int (Int32.ofInt (gv ρ j a b))), (9, .int (nI (n2of ρ j a b))), (8, .int (nI (ρ (14 + 21 * j) - (a * ρ 8 + b * ρ 9)))), (0, .ref h), (1, .int (nI j)), (2, .int (nI (wantd ρ j 0))), (3, .int (nI (wantd ρ j 1))), (4, .int (nI (wantd ρ j 2))), (5, .int (Int32.ofInt k)), (6, .int (nI a)), (7, .int (nI b))]) hx hb dX1_bidByValues_126 hl (by decide) rfl (fun ls hl => ?_)
            refine lv_iload hx hb dX1_bidByValues_128 (lv_at hl 0 rfl) ?_
            refine lv_iload hx hb dX1_bidByValues_130 (lv_at hl 8 rfl) ?_
            refine lv_icmp_le (tgt := 150) hx hb dX1_bidByValues_132 (by decide) (fun c_24 => ?_) (fun c_24 => ?_)
            · refine lv_iinc (v := (nI (1 + b))) (lv' := [(7, .int (nI (1 + b))), (10, .int (Int32.ofInt (gv ρ j a b))), (9, .int (nI (n2of ρ j a b))), (8, .int (nI (ρ (14 + 21 * j) - (a * ρ 8 + b * ρ 9)))), (0, .ref h), (1, .int (nI j)), (2, .int (nI (wantd ρ j 0))), (3, .int (nI (wantd ρ j 1))), (4, .int (nI (wantd ρ j 2))), (5, .int (Int32.ofInt k)), (6, .int (nI a))]) hx hb dX1_bidByValues_150 hl (k := 10) rfl (by rw [show (1 : Int) = ((1 : Nat) : Int) from rfl, nI_inc]; exact congrArg nI (by omega)) (by decide) rfl (fun ls hl => ?_)
              refine lv_goto (tgt := 37) hx hb dX1_bidByValues_153 (by decide) ?_
              exact ih37 (1 + b) τ γt k (by omega) (by omega) (cb_leave (by omega) (by omega) hsp (gv_0 (by omega) (by omega)) (by clear hret hw hl M hK hZ hx hb; exact (ofI32_le (gv_b hI hj (by omega) (by omega)) (hc2.gb hI hj)).mp c_24) hc2) _ _ hw _ (lv_sub hl [4, 5, 6, 7, 8, 9, 10, 0] rfl)
            have hgt : k < gv ρ j a b := by clear hret hw hl M hK hZ hx hb; have := mt (ofI32_le (gv_b hI hj (by omega) (by omega)) (hc2.gb hI hj)).mpr c_24; omega
            refine lv_iload hx hb dX1_bidByValues_135 (lv_at hl 0 rfl) ?_
            refine lv_istore (lv' := [(5, .int (Int32.ofInt (gv ρ j a b))), (10, .int (Int32.ofInt (gv ρ j a b))), (9, .int (nI (n2of ρ j a b))), (8, .int (nI (ρ (14 + 21 * j) - (a * ρ 8 + b * ρ 9)))), (0, .ref h), (1, .int (nI j)), (2, .int (nI (wantd ρ j 0))), (3, .int (nI (wantd ρ j 1))), (4, .int (nI (wantd ρ j 2))), (6, .int (nI a)), (7, .int (nI b))]) hx hb dX1_bidByValues_137 hl (by decide) rfl (fun ls hl => ?_)
            refine lv_aload_n hx hb dX1_bidByValues_139 rfl (lv_at hl 4 rfl) ?_
            refine lv_iload_n hx hb dX1_bidByValues_140 rfl (lv_at hl 5 rfl) ?_
            refine lv_iload hx hb dX1_bidByValues_141 (lv_at hl 9 rfl) ?_
            refine lv_iload hx hb dX1_bidByValues_143 (lv_at hl 10 rfl) ?_
            refine lv_iload hx hb dX1_bidByValues_145 (lv_at hl 2 rfl) ?_
            refine x_cVV (As := [.int (nI j), .int (nI a), .int (nI b), .int (nI (n2of ρ j a b))]) (k_X1_changeDemands l G Y h j a b (n2of ρ j a b) (τ 4) (τ 0) (τ 1) (τ 2) (τ 3) (supF τ) (ptsF τ) (priF τ) (rgtF τ γt) (capF τ γt) (pckF τ γt) (valF τ γt) (demF τ γt) (lotF τ γt) (worF τ γt) (by omega)) cw_X1_114 [0] 0 0 M hK hZ hw hl.1 rfl (by decide) rfl rfl rfl ⟨by decide, by decide⟩ ⟨Nat.zero_le _, Nat.zero_le _⟩ rfl rfl (Nat.le_of_ble_eq_true rfl) dX1_bidByValues_147 (fun sg h_25 H locs hw => ?_)
            obtain rfl := h_25
            have hw : xW G A s.heap [aucR Y h (supF τ) (ptsF τ) (priF τ) (rgtF τ γt) (capF τ γt) (pckF τ γt) (valF τ γt) (setN (setN (setN (demF τ γt) (3 * j) a) (1 + 3 * j) b) (2 + 3 * j) (n2of ρ j a b)) (lotF τ γt) (worF τ γt) (τ 4) (τ 0) (τ 1) (τ 2) (τ 3)] H locs := hw
            have hN26 : (mDem τ j a b (n2of ρ j a b)) 4 = τ 4 := by clear hret hw hl M hK hZ hx hb; simp only [mDem, setN, if_true, if_false, reduceIte] <;> (repeat' split) <;> first | rfl | (exfalso; omega) | omega
            obtain ⟨γ27, hw⟩ := auc_fold (i := 0) (ρ' := mDem τ j a b (n2of ρ j a b)) hw rfl hN26.symm (by clear hret hw hl M hK hZ hx hb; simp only [mDem, setN, if_true, if_false, reduceIte] <;> (repeat' split) <;> first | rfl | (exfalso; omega) | omega) (by clear hret hw hl M hK hZ hx hb; simp only [mDem, setN, if_true, if_false, reduceIte] <;> (repeat' split) <;> first | rfl | (exfalso; omega) | omega) (by clear hret hw hl M hK hZ hx hb; simp only [mDem, setN, if_true, if_false, reduceIte] <;> (repeat' split) <;> first | rfl | (exfalso; omega) | omega) (by clear hret hw hl M hK hZ hx hb; simp only [mDem, setN, if_true, if_false, reduceIte] <;> (repeat' split) <;> first | rfl | (exfalso; omega) | omega) (by clear hret hw hl M hK hZ hx hb; intro k9 hk9; (try simp only [mDem, setN, if_true, if_false, reduceIte, supF]) <;> (repeat' split) <;> first | rfl | (exfalso; omega) | omega) (by clear hret hw hl M hK hZ hx hb; intro k9 hk9; (try simp only [mDem, setN, if_true, if_false, reduceIte, ptsF]) <;> (repeat' split) <;> first | rfl | (exfalso; omega) | omega) (by clear hret hw hl M hK hZ hx hb; intro k9 hk9; (try simp only [mDem, setN, if_true, if_false, reduceIte, priF]) <;> (repeat' split) <;> first | rfl | (exfalso; omega) | omega) (by clear hret hw hl M hK hZ hx hb; intro b9 hb1; rw [hN26] at hb1; rcases Nat.lt_trichotomy b9 j with q9 | q9 | q9; (rw [mDem_o (by omega)]; (repeat rw [setN_n (by omega)]); exact rgt_at (by omega) rfl rfl); (subst q9; (try simp only [mDem, setN, if_true, if_false, reduceIte]) <;> (repeat' split) <;> first | rfl | (exfalso; omega) | exact rgt_at (by omega) rfl rfl | omega); (rw [mDem_o (by omega)]; (repeat rw [setN_n (by omega)]); exact rgt_at (by omega) rfl rfl)) (by clear hret hw hl M hK hZ hx hb; intro b9 hb1; rw [hN26] at hb1; rcases Nat.lt_trichotomy b9 j with q9 | q9 | q9; (rw [mDem_o (by omega)]; (repeat rw [setN_n (by omega)]); exact cap_at (by omega) rfl rfl); (subst q9; (try simp only [mDem, setN, if_true, if_false, reduceIte]) <;> (repeat' split) <;> first | rfl | (exfalso; omega) | exact cap_at (by omega) rfl rfl | omega); (rw [mDem_o (by omega)]; (repeat rw [setN_n (by omega)]); exact cap_at (by omega) rfl rfl)) (by clear hret hw hl M hK hZ hx hb; intro b9 hb1; rw [hN26] at hb1; rcases Nat.lt_trichotomy b9 j with q9 | q9 | q9; (rw [mDem_o (by omega)]; (repeat rw [setN_n (by omega)]); exact pck_at (by omega) rfl rfl); (subst q9; (try simp only [mDem, setN, if_true, if_false, reduceIte]) <;> (repeat' split) <;> first | rfl | (exfalso; omega) | exact pck_at (by omega) rfl rfl | omega); (rw [mDem_o (by omega)]; (repeat rw [setN_n (by omega)]); exact pck_at (by omega) rfl rfl)) (by clear hret hw hl M hK hZ hx hb; intro b9 k9 hb1 hk9; rw [hN26] at hb1; rcases Nat.lt_trichotomy b9 j with q9 | q9 | q9; (rw [mDem_o (by omega)]; (repeat rw [setN_n (by omega)]); exact val_at (by omega) (by omega) rfl rfl); (subst q9; (try simp only [mDem, setN, if_true, if_false, reduceIte]) <;> (repeat' split) <;> first | rfl | (exfalso; omega) | exact val_at (by omega) (by omega) rfl rfl | omega); (rw [mDem_o (by omega)]; (repeat rw [setN_n (by omega)]); exact val_at (by omega) (by omega) rfl rfl)) (by clear hret hw hl M hK hZ hx hb; intro b9 k9 hb1 hk9; rw [hN26] at hb1; rcases Nat.lt_trichotomy b9 j with q9 | q9 | q9; (rw [mDem_o (by omega)]; (repeat rw [setN_n (by omega)]); exact dem_at (by omega) (by omega) rfl rfl); (subst q9; (try simp only [mDem, setN, if_true, if_false, reduceIte]) <;> (repeat' split) <;> first | rfl | (exfalso; omega) | exact dem_at (by omega) (by omega) rfl rfl | omega); (rw [mDem_o (by omega)]; (repeat rw [setN_n (by omega)]); exact dem_at (by omega) (by omega) rfl rfl)) (by clear hret hw hl M hK hZ hx hb; intro b9 i9 k9 hb1 hi9 h39 hk9; rw [hN26] at hb1; rcases Nat.lt_trichotomy b9 j with q9 | q9 | q9; (rw [mDem_o (by omega)]; rw [mDem_o (by omega)] at hi9; (repeat rw [setN_n (by omega)]); exact lot_at (by omega) (by omega) (by omega) (by omega) rfl rfl); (subst q9; simp only [mDem, setN, if_true, if_false, reduceIte] at hi9; (try simp only [mDem, setN, if_true, if_false, reduceIte]) <;> (repeat' split at hi9) <;> (repeat' split) <;> first | rfl | (exfalso; omega) | exact lot_at (by omega) (by omega) (by omega) (by omega) rfl rfl | omega); (rw [mDem_o (by omega)]; rw [mDem_o (by omega)] at hi9; (repeat rw [setN_n (by omega)]); exact lot_at (by omega) (by omega) (by omega) (by omega) rfl rfl)) (by clear hret hw hl M hK hZ hx hb; intro b9 i9 hb1 hi9 h39; rw [hN26] at hb1; rcases Nat.lt_trichotomy b9 j with q9 | q9 | q9; (rw [mDem_o (by omega)]; rw [mDem_o (by omega)] at hi9; (repeat rw [setN_n (by omega)]); exact wor_at (by omega) (by omega) (by omega) rfl rfl); (subst q9; simp only [mDem, setN, if_true, if_false, reduceIte] at hi9; (try simp only [mDem, setN, if_true, if_false, reduceIte]) <;> (repeat' split at hi9) <;> (repeat' split) <;> first | rfl | (exfalso; omega) | exact wor_at (by omega) (by omega) (by omega) rfl rfl | omega); (rw [mDem_o (by omega)]; rw [mDem_o (by omega)] at hi9; (repeat rw [setN_n (by omega)]); exact wor_at (by omega) (by omega) (by omega) rfl rfl))
            have hw : xW G A s.heap [aucW Y h (mDem τ j a b (n2of ρ j a b)) γ27] H locs := hw
            have hc3 := cb_take (by omega) (by omega) hsp hgt hc2
            refine lv_iinc (v := (nI (1 + b))) (lv' := [(7, .int (nI (1 + b))), (5, .int (Int32.ofInt (gv ρ j a b))), (10, .int (Int32.ofInt (gv ρ j a b))), (9, .int (nI (n2of ρ j a b))), (8, .int (nI (ρ (14 + 21 * j) - (a * ρ 8 + b * ρ 9)))), (0, .ref h), (1, .int (nI j)), (2, .int (nI (wantd ρ j 0))), (3, .int (nI (wantd ρ j 1))), (4, .int (nI (wantd ρ j 2))), (6, .int (nI a))]) hx hb dX1_bidByValues_150 hl (k := 10) rfl (by rw [show (1 : Int) = ((1 : Nat) : Int) from rfl, nI_inc]; exact congrArg nI (by omega)) (by decide) rfl (fun ls hl => ?_)
            refine lv_goto (tgt := 37) hx hb dX1_bidByValues_153 (by decide) ?_
            exact ih37 (1 + b) (mDem τ j a b (n2of ρ j a b)) γ27 (gv ρ j a b) (by omega) (by omega) (hc3) _ _ hw _ (lv_sub hl [5, 6, 7, 8, 9, 1, 10, 0] rfl)
          refine lv_goto (tgt := 156) hx hb dX1_bidByValues_76 (by decide) ?_
          refine lv_iinc (v := (nI (1 + a))) (lv' := [(6, .int (nI (1 + a))), (8, .int (((nI (τ (14 + 21 * j))) - (nI (a * (τ 8)))) - (nI (b * (τ 9))))), (0, .ref h), (1, .int (nI j)), (2, .int (nI (wantd ρ j 0))), (3, .int (nI (wantd ρ j 1))), (4, .int (nI (wantd ρ j 2))), (5, .int (Int32.ofInt k)), (7, .int (nI b))]) hx hb dX1_bidByValues_156 hl (k := 7) rfl (by rw [show (1 : Int) = ((1 : Nat) : Int) from rfl, nI_inc]; exact congrArg nI (by omega)) (by decide) rfl (fun ls hl => ?_)
          refine lv_goto (tgt := 28) hx hb dX1_bidByValues_159 (by decide) ?_
          exact ih28 (1 + a) τ γt k (by omega) (by omega) (cb_row (Or.inr (by clear hret hw hl M hK hZ hx hb; rw [Int32.le_iff_toInt_le, show (0 : Int32).toInt = 0 from rfl, spare_toInt (by omega) (by omega) (by omega)] at c_16; rw [t14, t8, t9] at c_16; omega)) hc2) _ _ hw _ (lv_sub hl [2, 3, 4, 5, 6, 7, 0] rfl)
      exact L37 (1 + wantd ρ j 1 - 0 + 1) 0 σ γs g (Nat.lt_succ_self _) (by omega) (hc) _ _ hw _ (lv_sub hl [1, 2, 3, 4, 5, 6, 7, 0] rfl)
  exact L28 (1 + wantd ρ j 0 - 0 + 1) 0 ρ γ (-1) (Nat.lt_succ_self _) (by omega) (cb_0) _ _ hw _ (lv_sub hl [5, 6, 4, 3, 2, 1, 0] rfl)
