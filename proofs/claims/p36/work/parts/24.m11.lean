set_option maxHeartbeats 4000000 in
set_option maxRecDepth 20000 in
theorem k_X1_renew (l : Launch) (G : va_G) (Y : Nat → Nat) (h n r o u v : Nat) (f0 f1 f2 f3 f4 f5 f6 f7 f8 f9 : Nat → Nat)  : CtV l yX1_renew cX1_renew 2 0 0 [.ref h] [aucR Y h f0 f1 f2 f3 f4 f5 f6 f7 f8 f9 n r o u v] (fun sg => ∃ γ' : Nat → Nat → Nat, sg = [aucW Y h row0 γ']) G Y := by
  refine x_ofV (by decide) (Nat.le_of_ble_eq_true rfl) (fun p e s m args below meth c A ls Q M hK hZ hw hl hret => ?_)
  obtain ⟨hx, hb, -⟩ := id M
  have hl : lv_has ls 2 [(0, .ref h)] := hl
  refine lv_iconst (v := (nI 0)) hx hb dX1_renew_0 (by decide) ?_
  refine lv_istore_n (lv' := [(1, .int (nI 0)), (0, .ref h)]) hx hb dX1_renew_1 rfl hl (by decide) rfl (fun ls hl => ?_)
  refine lv_iload_n hx hb dX1_renew_2 rfl (lv_at hl 0 rfl) ?_
  refine lv_iconst (v := (nI 3)) hx hb dX1_renew_3 (by decide) ?_
  refine x_cge M (tgt := 35) (by decide) (by decide) dX1_renew_4 (by decide) (fun c_1 => absurd c_1 (by decide)) (fun c_1 => ?_)
  refine lv_aload_n hx hb dX1_renew_7 rfl (lv_at hl 1 rfl) ?_
  refine x_get M hK hw 0 0 rfl rfl ff_X1_9 rfl dX1_renew_8 ?_
  refine lv_iload_n hx hb dX1_renew_11 rfl (lv_at hl 0 rfl) ?_
  refine lv_iconst (v := (nI 2)) hx hb dX1_renew_12 (by decide) ?_
  refine x_iast M hK hw 0 1 rfl rfl (by decide) (by decide) dX1_renew_13 (fun H locs hw => ?_)
  rw [upd_row] at hw
  have hw : xW G A s.heap [aucR Y h (setN f0 0 2) f1 f2 f3 f4 f5 f6 f7 f8 f9 n r o u v] H locs := hw
  refine lv_aload_n hx hb dX1_renew_14 rfl (lv_at hl 1 rfl) ?_
  refine x_get M hK hw 0 0 rfl rfl ff_X1_15 rfl dX1_renew_15 ?_
  refine lv_iload_n hx hb dX1_renew_18 rfl (lv_at hl 0 rfl) ?_
  refine lv_iconst (v := (nI 1)) hx hb dX1_renew_19 (by decide) ?_
  refine x_iast M hK hw 0 2 rfl rfl (by decide) (by decide) dX1_renew_20 (fun H locs hw => ?_)
  rw [upd_row] at hw
  have hw : xW G A s.heap [aucR Y h (setN f0 0 2) (setN f1 0 1) f2 f3 f4 f5 f6 f7 f8 f9 n r o u v] H locs := hw
  refine lv_aload_n hx hb dX1_renew_21 rfl (lv_at hl 1 rfl) ?_
  refine x_get M hK hw 0 0 rfl rfl ff_X1_18 rfl dX1_renew_22 ?_
  refine lv_iload_n hx hb dX1_renew_25 rfl (lv_at hl 0 rfl) ?_
  refine lv_bipush (v := (nI 10)) hx hb dX1_renew_26 (by decide) ?_
  refine x_iast M hK hw 0 3 rfl rfl (by decide) (by decide) dX1_renew_28 (fun H locs hw => ?_)
  rw [upd_row] at hw
  have hw : xW G A s.heap [aucR Y h (setN f0 0 2) (setN f1 0 1) (setN f2 0 10) f3 f4 f5 f6 f7 f8 f9 n r o u v] H locs := hw
  refine lv_iinc (v := (nI 1)) (lv' := [(1, .int (nI 1)), (0, .ref h)]) hx hb dX1_renew_29 hl (k := 0) rfl (by decide) (by decide) rfl (fun ls hl => ?_)
  refine lv_goto (tgt := 2) hx hb dX1_renew_32 (by decide) ?_
  refine lv_iload_n hx hb dX1_renew_2 rfl (lv_at hl 0 rfl) ?_
  refine lv_iconst (v := (nI 3)) hx hb dX1_renew_3 (by decide) ?_
  refine x_cge M (tgt := 35) (by decide) (by decide) dX1_renew_4 (by decide) (fun c_2 => absurd c_2 (by decide)) (fun c_2 => ?_)
  refine lv_aload_n hx hb dX1_renew_7 rfl (lv_at hl 1 rfl) ?_
  refine x_get M hK hw 0 0 rfl rfl ff_X1_9 rfl dX1_renew_8 ?_
  refine lv_iload_n hx hb dX1_renew_11 rfl (lv_at hl 0 rfl) ?_
  refine lv_iconst (v := (nI 2)) hx hb dX1_renew_12 (by decide) ?_
  refine x_iast M hK hw 0 1 rfl rfl (by decide) (by decide) dX1_renew_13 (fun H locs hw => ?_)
  rw [upd_row] at hw
  have hw : xW G A s.heap [aucR Y h (setN (setN f0 0 2) 1 2) (setN f1 0 1) (setN f2 0 10) f3 f4 f5 f6 f7 f8 f9 n r o u v] H locs := hw
  refine lv_aload_n hx hb dX1_renew_14 rfl (lv_at hl 1 rfl) ?_
  refine x_get M hK hw 0 0 rfl rfl ff_X1_15 rfl dX1_renew_15 ?_
  refine lv_iload_n hx hb dX1_renew_18 rfl (lv_at hl 0 rfl) ?_
  refine lv_iconst (v := (nI 1)) hx hb dX1_renew_19 (by decide) ?_
  refine x_iast M hK hw 0 2 rfl rfl (by decide) (by decide) dX1_renew_20 (fun H locs hw => ?_)
  rw [upd_row] at hw
  have hw : xW G A s.heap [aucR Y h (setN (setN f0 0 2) 1 2) (setN (setN f1 0 1) 1 1) (setN f2 0 10) f3 f4 f5 f6 f7 f8 f9 n r o u v] H locs := hw
  refine lv_aload_n hx hb dX1_renew_21 rfl (lv_at hl 1 rfl) ?_
  refine x_get M hK hw 0 0 rfl rfl ff_X1_18 rfl dX1_renew_22 ?_
  refine lv_iload_n hx hb dX1_renew_25 rfl (lv_at hl 0 rfl) ?_
  refine lv_bipush (v := (nI 10)) hx hb dX1_renew_26 (by decide) ?_
  refine x_iast M hK hw 0 3 rfl rfl (by decide) (by decide) dX1_renew_28 (fun H locs hw => ?_)
  rw [upd_row] at hw
  have hw : xW G A s.heap [aucR Y h (setN (setN f0 0 2) 1 2) (setN (setN f1 0 1) 1 1) (setN (setN f2 0 10) 1 10) f3 f4 f5 f6 f7 f8 f9 n r o u v] H locs := hw
  refine lv_iinc (v := (nI 2)) (lv' := [(1, .int (nI 2)), (0, .ref h)]) hx hb dX1_renew_29 hl (k := 0) rfl (by decide) (by decide) rfl (fun ls hl => ?_)
  refine lv_goto (tgt := 2) hx hb dX1_renew_32 (by decide) ?_
  refine lv_iload_n hx hb dX1_renew_2 rfl (lv_at hl 0 rfl) ?_
  refine lv_iconst (v := (nI 3)) hx hb dX1_renew_3 (by decide) ?_
  refine x_cge M (tgt := 35) (by decide) (by decide) dX1_renew_4 (by decide) (fun c_3 => absurd c_3 (by decide)) (fun c_3 => ?_)
  refine lv_aload_n hx hb dX1_renew_7 rfl (lv_at hl 1 rfl) ?_
  refine x_get M hK hw 0 0 rfl rfl ff_X1_9 rfl dX1_renew_8 ?_
  refine lv_iload_n hx hb dX1_renew_11 rfl (lv_at hl 0 rfl) ?_
  refine lv_iconst (v := (nI 2)) hx hb dX1_renew_12 (by decide) ?_
  refine x_iast M hK hw 0 1 rfl rfl (by decide) (by decide) dX1_renew_13 (fun H locs hw => ?_)
  rw [upd_row] at hw
  have hw : xW G A s.heap [aucR Y h (setN (setN (setN f0 0 2) 1 2) 2 2) (setN (setN f1 0 1) 1 1) (setN (setN f2 0 10) 1 10) f3 f4 f5 f6 f7 f8 f9 n r o u v] H locs := hw
  refine lv_aload_n hx hb dX1_renew_14 rfl (lv_at hl 1 rfl) ?_
  refine x_get M hK hw 0 0 rfl rfl ff_X1_15 rfl dX1_renew_15 ?_
  refine lv_iload_n hx hb dX1_renew_18 rfl (lv_at hl 0 rfl) ?_
  refine lv_iconst (v := (nI 1)) hx hb dX1_renew_19 (by decide) ?_
  refine x_iast M hK hw 0 2 rfl rfl (by decide) (by decide) dX1_renew_20 (fun H locs hw => ?_)
  rw [upd_row] at hw
  have hw : xW G A s.heap [aucR Y h (setN (setN (setN f0 0 2) 1 2) 2 2) (setN (setN (setN f1 0 1) 1 1) 2 1) (setN (setN f2 0 10) 1 10) f3 f4 f5 f6 f7 f8 f9 n r o u v] H locs := hw
  refine lv_aload_n hx hb dX1_renew_21 rfl (lv_at hl 1 rfl) ?_
  refine x_get M hK hw 0 0 rfl rfl ff_X1_18 rfl dX1_renew_22 ?_
  refine lv_iload_n hx hb dX1_renew_25 rfl (lv_at hl 0 rfl) ?_
  refine lv_bipush (v := (nI 10)) hx hb dX1_renew_26 (by decide) ?_
  refine x_iast M hK hw 0 3 rfl rfl (by decide) (by decide) dX1_renew_28 (fun H locs hw => ?_)
  rw [upd_row] at hw
  have hw : xW G A s.heap [aucR Y h (setN (setN (setN f0 0 2) 1 2) 2 2) (setN (setN (setN f1 0 1) 1 1) 2 1) (setN (setN (setN f2 0 10) 1 10) 2 10) f3 f4 f5 f6 f7 f8 f9 n r o u v] H locs := hw
  refine lv_iinc (v := (nI 3)) (lv' := [(1, .int (nI 3)), (0, .ref h)]) hx hb dX1_renew_29 hl (k := 0) rfl (by decide) (by decide) rfl (fun ls hl => ?_)
  refine lv_goto (tgt := 2) hx hb dX1_renew_32 (by decide) ?_
  refine lv_iload_n hx hb dX1_renew_2 rfl (lv_at hl 0 rfl) ?_
  refine lv_iconst (v := (nI 3)) hx hb dX1_renew_3 (by decide) ?_
  refine x_cge M (tgt := 35) (by decide) (by decide) dX1_renew_4 (by decide) (fun c_4 => ?_) (fun c_4 => absurd c_4 (by decide))
  refine lv_aload_n hx hb dX1_renew_35 rfl (lv_at hl 1 rfl) ?_
  refine lv_iconst (v := (nI 0)) hx hb dX1_renew_36 (by decide) ?_
  refine x_put M hK hw 0 0 rfl rfl fp_X1_45 rfl rfl (Nat.le_of_ble_eq_true rfl) dX1_renew_37 (fun H locs hw => ?_)
  have hw : xW G A s.heap [aucR Y h (setN (setN (setN f0 0 2) 1 2) 2 2) (setN (setN (setN f1 0 1) 1 1) 2 1) (setN (setN (setN f2 0 10) 1 10) 2 10) f3 f4 f5 f6 f7 f8 f9 0 r o u v] H locs := hw
  refine lv_aload_n hx hb dX1_renew_40 rfl (lv_at hl 1 rfl) ?_
  refine lv_iconst (v := (nI 0)) hx hb dX1_renew_41 (by decide) ?_
  refine x_put M hK hw 0 0 rfl rfl fp_X1_49 rfl rfl (Nat.le_of_ble_eq_true rfl) dX1_renew_42 (fun H locs hw => ?_)
  have hw : xW G A s.heap [aucR Y h (setN (setN (setN f0 0 2) 1 2) 2 2) (setN (setN (setN f1 0 1) 1 1) 2 1) (setN (setN (setN f2 0 10) 1 10) 2 10) f3 f4 f5 f6 f7 f8 f9 0 0 o u v] H locs := hw
  refine lv_aload_n hx hb dX1_renew_45 rfl (lv_at hl 1 rfl) ?_
  refine lv_iconst (v := (nI 0)) hx hb dX1_renew_46 (by decide) ?_
  refine x_put M hK hw 0 0 rfl rfl fp_X1_52 rfl rfl (Nat.le_of_ble_eq_true rfl) dX1_renew_47 (fun H locs hw => ?_)
  have hw : xW G A s.heap [aucR Y h (setN (setN (setN f0 0 2) 1 2) 2 2) (setN (setN (setN f1 0 1) 1 1) 2 1) (setN (setN (setN f2 0 10) 1 10) 2 10) f3 f4 f5 f6 f7 f8 f9 0 0 0 u v] H locs := hw
  refine lv_aload_n hx hb dX1_renew_50 rfl (lv_at hl 1 rfl) ?_
  refine lv_bipush (v := (nI 100)) hx hb dX1_renew_51 (by decide) ?_
  refine x_put M hK hw 0 0 rfl rfl fp_X1_56 rfl rfl (Nat.le_of_ble_eq_true rfl) dX1_renew_53 (fun H locs hw => ?_)
  have hw : xW G A s.heap [aucR Y h (setN (setN (setN f0 0 2) 1 2) 2 2) (setN (setN (setN f1 0 1) 1 1) 2 1) (setN (setN (setN f2 0 10) 1 10) 2 10) f3 f4 f5 f6 f7 f8 f9 0 0 0 100 v] H locs := hw
  refine lv_aload_n hx hb dX1_renew_56 rfl (lv_at hl 1 rfl) ?_
  refine lv_bipush (v := (nI 10)) hx hb dX1_renew_57 (by decide) ?_
  refine x_put M hK hw 0 0 rfl rfl fp_X1_59 rfl rfl (Nat.le_of_ble_eq_true rfl) dX1_renew_59 (fun H locs hw => ?_)
  have hw : xW G A s.heap [aucR Y h (setN (setN (setN f0 0 2) 1 2) 2 2) (setN (setN (setN f1 0 1) 1 1) 2 1) (setN (setN (setN f2 0 10) 1 10) 2 10) f3 f4 f5 f6 f7 f8 f9 0 0 0 100 10] H locs := hw
  obtain ⟨γ5, hw⟩ := auc_fold (i := 0) (ρ' := row0) hw rfl rfl rfl rfl rfl rfl (fun k hk => k3 (P := fun k => (setN (setN (setN f0 0 2) 1 2) 2 2) k = row0 (5 + k)) hk rfl rfl rfl) (fun k hk => k3 (P := fun k => (setN (setN (setN f1 0 1) 1 1) 2 1) k = row0 (8 + k)) hk rfl rfl rfl) (fun k hk => k3 (P := fun k => (setN (setN (setN f2 0 10) 1 10) 2 10) k = row0 (11 + k)) hk rfl rfl rfl) (fun b hb => absurd hb (Nat.not_lt_zero _)) (fun b hb => absurd hb (Nat.not_lt_zero _)) (fun b hb => absurd hb (Nat.not_lt_zero _)) (fun b k hb => absurd hb (Nat.not_lt_zero _)) (fun b k hb => absurd hb (Nat.not_lt_zero _)) (fun b i k hb => absurd hb (Nat.not_lt_zero _)) (fun b i hb => absurd hb (Nat.not_lt_zero _))
  have hw : xW G A s.heap [aucW Y h row0 γ5] H locs := hw
  exact hret _ _ _ _ _ dX1_renew_62 hw rfl ⟨_, rfl⟩
set_option maxHeartbeats 4000000 in
set_option maxRecDepth 20000 in
theorem k_X1_become (l : Launch) (G : va_G) (Y : Nat → Nat) (h o : Nat) (ρ : Nat → Nat) (γ : Nat → Nat → Nat) (σ : Nat → Nat) (δ : Nat → Nat → Nat) (hI : Inv σ) : CtV l yX1_become cX1_become 2 1 60 [.ref h, .ref o] [aucW Y h ρ γ, aucW Y o σ δ] (fun sg => sg = [aucW Y h σ δ, aucW Y o σ δ]) G Y := by
  refine x_ofV (by decide) (Nat.le_of_ble_eq_true rfl) (fun p e s m args below meth c A ls Q M hK hZ hw hl hret => ?_)
  obtain ⟨hx, hb, -⟩ := id M
  have hl : lv_has ls 2 [(0, .ref h), (1, .ref o)] := hl
  have := hI.over
  refine lv_aload_n hx hb dX1_become_0 rfl (lv_at hl 1 rfl) ?_
  refine x_get M hK hw 1 0 rfl rfl ff_X1_9 rfl dX1_become_1 ?_
  refine lv_iconst (v := (nI 0)) hx hb dX1_become_4 (by decide) ?_
  refine lv_aload_n hx hb dX1_become_5 rfl (lv_at hl 0 rfl) ?_
  refine x_get M hK hw 0 0 rfl rfl ff_X1_9 rfl dX1_become_6 ?_
  refine lv_iconst (v := (nI 0)) hx hb dX1_become_9 (by decide) ?_
  refine lv_iconst (v := (nI 3)) hx hb dX1_become_10 (by decide) ?_
  refine x_copy M hK hw hl.1 mw_263 mw_265 mw_264 mw_18 1 1 0 1 rfl rfl rfl rfl (by decide) (by decide) (by decide) ⟨by decide, by decide⟩ (Nat.le_of_ble_eq_true rfl) dX1_become_11 (fun H locs hw => ?_)
  rw [cpy_row] at hw
  have hw : xW G A s.heap [aucR Y h (cpyN (supF σ) (supF ρ) 3) (ptsF ρ) (priF ρ) (rgtF ρ γ) (capF ρ γ) (pckF ρ γ) (valF ρ γ) (demF ρ γ) (lotF ρ γ) (worF ρ γ) (ρ 4) (ρ 0) (ρ 1) (ρ 2) (ρ 3), aucW Y o σ δ] H locs := hw
  refine lv_aload_n hx hb dX1_become_14 rfl (lv_at hl 1 rfl) ?_
  refine x_get M hK hw 1 0 rfl rfl ff_X1_15 rfl dX1_become_15 ?_
  refine lv_iconst (v := (nI 0)) hx hb dX1_become_18 (by decide) ?_
  refine lv_aload_n hx hb dX1_become_19 rfl (lv_at hl 0 rfl) ?_
  refine x_get M hK hw 0 0 rfl rfl ff_X1_15 rfl dX1_become_20 ?_
  refine lv_iconst (v := (nI 0)) hx hb dX1_become_23 (by decide) ?_
  refine lv_iconst (v := (nI 3)) hx hb dX1_become_24 (by decide) ?_
  refine x_copy M hK hw hl.1 mw_263 mw_265 mw_264 mw_18 1 2 0 2 rfl rfl rfl rfl (by decide) (by decide) (by decide) ⟨by decide, by decide⟩ (Nat.le_of_ble_eq_true rfl) dX1_become_25 (fun H locs hw => ?_)
  rw [cpy_row] at hw
  have hw : xW G A s.heap [aucR Y h (cpyN (supF σ) (supF ρ) 3) (cpyN (ptsF σ) (ptsF ρ) 3) (priF ρ) (rgtF ρ γ) (capF ρ γ) (pckF ρ γ) (valF ρ γ) (demF ρ γ) (lotF ρ γ) (worF ρ γ) (ρ 4) (ρ 0) (ρ 1) (ρ 2) (ρ 3), aucW Y o σ δ] H locs := hw
  refine lv_aload_n hx hb dX1_become_28 rfl (lv_at hl 1 rfl) ?_
  refine x_get M hK hw 1 0 rfl rfl ff_X1_18 rfl dX1_become_29 ?_
  refine lv_iconst (v := (nI 0)) hx hb dX1_become_32 (by decide) ?_
  refine lv_aload_n hx hb dX1_become_33 rfl (lv_at hl 0 rfl) ?_
  refine x_get M hK hw 0 0 rfl rfl ff_X1_18 rfl dX1_become_34 ?_
  refine lv_iconst (v := (nI 0)) hx hb dX1_become_37 (by decide) ?_
  refine lv_iconst (v := (nI 3)) hx hb dX1_become_38 (by decide) ?_
  refine x_copy M hK hw hl.1 mw_263 mw_265 mw_264 mw_18 1 3 0 3 rfl rfl rfl rfl (by decide) (by decide) (by decide) ⟨by decide, by decide⟩ (Nat.le_of_ble_eq_true rfl) dX1_become_39 (fun H locs hw => ?_)
  rw [cpy_row] at hw
  have hw : xW G A s.heap [aucR Y h (cpyN (supF σ) (supF ρ) 3) (cpyN (ptsF σ) (ptsF ρ) 3) (cpyN (priF σ) (priF ρ) 3) (rgtF ρ γ) (capF ρ γ) (pckF ρ γ) (valF ρ γ) (demF ρ γ) (lotF ρ γ) (worF ρ γ) (ρ 4) (ρ 0) (ρ 1) (ρ 2) (ρ 3), aucW Y o σ δ] H locs := hw
  refine lv_aload_n hx hb dX1_become_42 rfl (lv_at hl 1 rfl) ?_
  refine x_get M hK hw 1 0 rfl rfl ff_X1_21 rfl dX1_become_43 ?_
  refine lv_iconst (v := (nI 0)) hx hb dX1_become_46 (by decide) ?_
  refine lv_aload_n hx hb dX1_become_47 rfl (lv_at hl 0 rfl) ?_
  refine x_get M hK hw 0 0 rfl rfl ff_X1_21 rfl dX1_become_48 ?_
  refine lv_iconst (v := (nI 0)) hx hb dX1_become_51 (by decide) ?_
  refine lv_bipush (v := (nI 6)) hx hb dX1_become_52 (by decide) ?_
  refine x_copy M hK hw hl.1 mw_263 mw_265 mw_264 mw_18 1 4 0 4 rfl rfl rfl rfl (by decide) (by decide) (by decide) ⟨by decide, by decide⟩ (Nat.le_of_ble_eq_true rfl) dX1_become_54 (fun H locs hw => ?_)
  rw [cpy_row] at hw
  have hw : xW G A s.heap [aucR Y h (cpyN (supF σ) (supF ρ) 3) (cpyN (ptsF σ) (ptsF ρ) 3) (cpyN (priF σ) (priF ρ) 3) (cpyN (rgtF σ δ) (rgtF ρ γ) 6) (capF ρ γ) (pckF ρ γ) (valF ρ γ) (demF ρ γ) (lotF ρ γ) (worF ρ γ) (ρ 4) (ρ 0) (ρ 1) (ρ 2) (ρ 3), aucW Y o σ δ] H locs := hw
  refine lv_aload_n hx hb dX1_become_57 rfl (lv_at hl 1 rfl) ?_
  refine x_get M hK hw 1 0 rfl rfl ff_X1_24 rfl dX1_become_58 ?_
  refine lv_iconst (v := (nI 0)) hx hb dX1_become_61 (by decide) ?_
  refine lv_aload_n hx hb dX1_become_62 rfl (lv_at hl 0 rfl) ?_
  refine x_get M hK hw 0 0 rfl rfl ff_X1_24 rfl dX1_become_63 ?_
  refine lv_iconst (v := (nI 0)) hx hb dX1_become_66 (by decide) ?_
  refine lv_bipush (v := (nI 6)) hx hb dX1_become_67 (by decide) ?_
  refine x_copy M hK hw hl.1 mw_263 mw_265 mw_264 mw_18 1 5 0 5 rfl rfl rfl rfl (by decide) (by decide) (by decide) ⟨by decide, by decide⟩ (Nat.le_of_ble_eq_true rfl) dX1_become_69 (fun H locs hw => ?_)
  rw [cpy_row] at hw
  have hw : xW G A s.heap [aucR Y h (cpyN (supF σ) (supF ρ) 3) (cpyN (ptsF σ) (ptsF ρ) 3) (cpyN (priF σ) (priF ρ) 3) (cpyN (rgtF σ δ) (rgtF ρ γ) 6) (cpyN (capF σ δ) (capF ρ γ) 6) (pckF ρ γ) (valF ρ γ) (demF ρ γ) (lotF ρ γ) (worF ρ γ) (ρ 4) (ρ 0) (ρ 1) (ρ 2) (ρ 3), aucW Y o σ δ] H locs := hw
  refine lv_aload_n hx hb dX1_become_72 rfl (lv_at hl 1 rfl) ?_
  refine x_get M hK hw 1 0 rfl rfl ff_X1_27 rfl dX1_become_73 ?_
  refine lv_iconst (v := (nI 0)) hx hb dX1_become_76 (by decide) ?_
  refine lv_aload_n hx hb dX1_become_77 rfl (lv_at hl 0 rfl) ?_
  refine x_get M hK hw 0 0 rfl rfl ff_X1_27 rfl dX1_become_78 ?_
  refine lv_iconst (v := (nI 0)) hx hb dX1_become_81 (by decide) ?_
  refine lv_bipush (v := (nI 6)) hx hb dX1_become_82 (by decide) ?_
  refine x_copy M hK hw hl.1 mw_263 mw_265 mw_264 mw_18 1 6 0 6 rfl rfl rfl rfl (by decide) (by decide) (by decide) ⟨by decide, by decide⟩ (Nat.le_of_ble_eq_true rfl) dX1_become_84 (fun H locs hw => ?_)
  rw [cpy_row] at hw
  have hw : xW G A s.heap [aucR Y h (cpyN (supF σ) (supF ρ) 3) (cpyN (ptsF σ) (ptsF ρ) 3) (cpyN (priF σ) (priF ρ) 3) (cpyN (rgtF σ δ) (rgtF ρ γ) 6) (cpyN (capF σ δ) (capF ρ γ) 6) (cpyN (pckF σ δ) (pckF ρ γ) 6) (valF ρ γ) (demF ρ γ) (lotF ρ γ) (worF ρ γ) (ρ 4) (ρ 0) (ρ 1) (ρ 2) (ρ 3), aucW Y o σ δ] H locs := hw
  refine lv_aload_n hx hb dX1_become_87 rfl (lv_at hl 1 rfl) ?_
  refine x_get M hK hw 1 0 rfl rfl ff_X1_30 rfl dX1_become_88 ?_
  refine lv_iconst (v := (nI 0)) hx hb dX1_become_91 (by decide) ?_
  refine lv_aload_n hx hb dX1_become_92 rfl (lv_at hl 0 rfl) ?_
  refine x_get M hK hw 0 0 rfl rfl ff_X1_30 rfl dX1_become_93 ?_
  refine lv_iconst (v := (nI 0)) hx hb dX1_become_96 (by decide) ?_
  refine lv_bipush (v := (nI 18)) hx hb dX1_become_97 (by decide) ?_
  refine x_copy M hK hw hl.1 mw_263 mw_265 mw_264 mw_18 1 7 0 7 rfl rfl rfl rfl (by decide) (by decide) (by decide) ⟨by decide, by decide⟩ (Nat.le_of_ble_eq_true rfl) dX1_become_99 (fun H locs hw => ?_)
  rw [cpy_row] at hw
  have hw : xW G A s.heap [aucR Y h (cpyN (supF σ) (supF ρ) 3) (cpyN (ptsF σ) (ptsF ρ) 3) (cpyN (priF σ) (priF ρ) 3) (cpyN (rgtF σ δ) (rgtF ρ γ) 6) (cpyN (capF σ δ) (capF ρ γ) 6) (cpyN (pckF σ δ) (pckF ρ γ) 6) (cpyN (valF σ δ) (valF ρ γ) 18) (demF ρ γ) (lotF ρ γ) (worF ρ γ) (ρ 4) (ρ 0) (ρ 1) (ρ 2) (ρ 3), aucW Y o σ δ] H locs := hw
  refine lv_aload_n hx hb dX1_become_102 rfl (lv_at hl 1 rfl) ?_
  refine x_get M hK hw 1 0 rfl rfl ff_X1_33 rfl dX1_become_103 ?_
  refine lv_iconst (v := (nI 0)) hx hb dX1_become_106 (by decide) ?_
  refine lv_aload_n hx hb dX1_become_107 rfl (lv_at hl 0 rfl) ?_
  refine x_get M hK hw 0 0 rfl rfl ff_X1_33 rfl dX1_become_108 ?_
  refine lv_iconst (v := (nI 0)) hx hb dX1_become_111 (by decide) ?_
  refine lv_bipush (v := (nI 18)) hx hb dX1_become_112 (by decide) ?_
  refine x_copy M hK hw hl.1 mw_263 mw_265 mw_264 mw_18 1 8 0 8 rfl rfl rfl rfl (by decide) (by decide) (by decide) ⟨by decide, by decide⟩ (Nat.le_of_ble_eq_true rfl) dX1_become_114 (fun H locs hw => ?_)
  rw [cpy_row] at hw
  have hw : xW G A s.heap [aucR Y h (cpyN (supF σ) (supF ρ) 3) (cpyN (ptsF σ) (ptsF ρ) 3) (cpyN (priF σ) (priF ρ) 3) (cpyN (rgtF σ δ) (rgtF ρ γ) 6) (cpyN (capF σ δ) (capF ρ γ) 6) (cpyN (pckF σ δ) (pckF ρ γ) 6) (cpyN (valF σ δ) (valF ρ γ) 18) (cpyN (demF σ δ) (demF ρ γ) 18) (lotF ρ γ) (worF ρ γ) (ρ 4) (ρ 0) (ρ 1) (ρ 2) (ρ 3), aucW Y o σ δ] H locs := hw
  refine lv_aload_n hx hb dX1_become_117 rfl (lv_at hl 1 rfl) ?_
  refine x_get M hK hw 1 0 rfl rfl ff_X1_36 rfl dX1_become_118 ?_
  refine lv_iconst (v := (nI 0)) hx hb dX1_become_121 (by decide) ?_
  refine lv_aload_n hx hb dX1_become_122 rfl (lv_at hl 0 rfl) ?_
  refine x_get M hK hw 0 0 rfl rfl ff_X1_36 rfl dX1_become_123 ?_
  refine lv_iconst (v := (nI 0)) hx hb dX1_become_126 (by decide) ?_
  refine lv_bipush (v := (nI 54)) hx hb dX1_become_127 (by decide) ?_
  refine x_copy M hK hw hl.1 mw_263 mw_265 mw_264 mw_18 1 9 0 9 rfl rfl rfl rfl (by decide) (by decide) (by decide) ⟨by decide, by decide⟩ (Nat.le_of_ble_eq_true rfl) dX1_become_129 (fun H locs hw => ?_)
  rw [cpy_row] at hw
  have hw : xW G A s.heap [aucR Y h (cpyN (supF σ) (supF ρ) 3) (cpyN (ptsF σ) (ptsF ρ) 3) (cpyN (priF σ) (priF ρ) 3) (cpyN (rgtF σ δ) (rgtF ρ γ) 6) (cpyN (capF σ δ) (capF ρ γ) 6) (cpyN (pckF σ δ) (pckF ρ γ) 6) (cpyN (valF σ δ) (valF ρ γ) 18) (cpyN (demF σ δ) (demF ρ γ) 18) (cpyN (lotF σ δ) (lotF ρ γ) 54) (worF ρ γ) (ρ 4) (ρ 0) (ρ 1) (ρ 2) (ρ 3), aucW Y o σ δ] H locs := hw
  refine lv_aload_n hx hb dX1_become_132 rfl (lv_at hl 1 rfl) ?_
  refine x_get M hK hw 1 0 rfl rfl ff_X1_39 rfl dX1_become_133 ?_
  refine lv_iconst (v := (nI 0)) hx hb dX1_become_136 (by decide) ?_
  refine lv_aload_n hx hb dX1_become_137 rfl (lv_at hl 0 rfl) ?_
  refine x_get M hK hw 0 0 rfl rfl ff_X1_39 rfl dX1_become_138 ?_
  refine lv_iconst (v := (nI 0)) hx hb dX1_become_141 (by decide) ?_
  refine lv_bipush (v := (nI 18)) hx hb dX1_become_142 (by decide) ?_
  refine x_copy M hK hw hl.1 mw_263 mw_265 mw_264 mw_18 1 10 0 10 rfl rfl rfl rfl (by decide) (by decide) (by decide) ⟨by decide, by decide⟩ (Nat.le_of_ble_eq_true rfl) dX1_become_144 (fun H locs hw => ?_)
  rw [cpy_row] at hw
  have hw : xW G A s.heap [aucR Y h (cpyN (supF σ) (supF ρ) 3) (cpyN (ptsF σ) (ptsF ρ) 3) (cpyN (priF σ) (priF ρ) 3) (cpyN (rgtF σ δ) (rgtF ρ γ) 6) (cpyN (capF σ δ) (capF ρ γ) 6) (cpyN (pckF σ δ) (pckF ρ γ) 6) (cpyN (valF σ δ) (valF ρ γ) 18) (cpyN (demF σ δ) (demF ρ γ) 18) (cpyN (lotF σ δ) (lotF ρ γ) 54) (cpyN (worF σ δ) (worF ρ γ) 18) (ρ 4) (ρ 0) (ρ 1) (ρ 2) (ρ 3), aucW Y o σ δ] H locs := hw
  refine lv_aload_n hx hb dX1_become_147 rfl (lv_at hl 0 rfl) ?_
  refine lv_aload_n hx hb dX1_become_148 rfl (lv_at hl 1 rfl) ?_
  refine x_get M hK hw 1 0 rfl rfl ff_X1_45 rfl dX1_become_149 ?_
  refine x_put M hK hw 0 0 rfl rfl fp_X1_45 rfl rfl (Nat.le_of_ble_eq_true rfl) dX1_become_152 (fun H locs hw => ?_)
  have hw : xW G A s.heap [aucR Y h (cpyN (supF σ) (supF ρ) 3) (cpyN (ptsF σ) (ptsF ρ) 3) (cpyN (priF σ) (priF ρ) 3) (cpyN (rgtF σ δ) (rgtF ρ γ) 6) (cpyN (capF σ δ) (capF ρ γ) 6) (cpyN (pckF σ δ) (pckF ρ γ) 6) (cpyN (valF σ δ) (valF ρ γ) 18) (cpyN (demF σ δ) (demF ρ γ) 18) (cpyN (lotF σ δ) (lotF ρ γ) 54) (cpyN (worF σ δ) (worF ρ γ) 18) (σ 4) (ρ 0) (ρ 1) (ρ 2) (ρ 3), aucW Y o σ δ] H locs := hw
  refine lv_aload_n hx hb dX1_become_155 rfl (lv_at hl 0 rfl) ?_
  refine lv_aload_n hx hb dX1_become_156 rfl (lv_at hl 1 rfl) ?_
  refine x_get M hK hw 1 0 rfl rfl ff_X1_49 rfl dX1_become_157 ?_
  refine x_put M hK hw 0 0 rfl rfl fp_X1_49 rfl rfl (Nat.le_of_ble_eq_true rfl) dX1_become_160 (fun H locs hw => ?_)
  have hw : xW G A s.heap [aucR Y h (cpyN (supF σ) (supF ρ) 3) (cpyN (ptsF σ) (ptsF ρ) 3) (cpyN (priF σ) (priF ρ) 3) (cpyN (rgtF σ δ) (rgtF ρ γ) 6) (cpyN (capF σ δ) (capF ρ γ) 6) (cpyN (pckF σ δ) (pckF ρ γ) 6) (cpyN (valF σ δ) (valF ρ γ) 18) (cpyN (demF σ δ) (demF ρ γ) 18) (cpyN (lotF σ δ) (lotF ρ γ) 54) (cpyN (worF σ δ) (worF ρ γ) 18) (σ 4) (σ 0) (ρ 1) (ρ 2) (ρ 3), aucW Y o σ δ] H locs := hw
  refine lv_aload_n hx hb dX1_become_163 rfl (lv_at hl 0 rfl) ?_
  refine lv_aload_n hx hb dX1_become_164 rfl (lv_at hl 1 rfl) ?_
  refine x_get M hK hw 1 0 rfl rfl ff_X1_52 rfl dX1_become_165 ?_
  refine x_put M hK hw 0 0 rfl rfl fp_X1_52 (nI_znar (by omega)) (nI_zfit (by omega)) (Nat.le_of_ble_eq_true rfl) dX1_become_168 (fun H locs hw => ?_)
  have hw : xW G A s.heap [aucR Y h (cpyN (supF σ) (supF ρ) 3) (cpyN (ptsF σ) (ptsF ρ) 3) (cpyN (priF σ) (priF ρ) 3) (cpyN (rgtF σ δ) (rgtF ρ γ) 6) (cpyN (capF σ δ) (capF ρ γ) 6) (cpyN (pckF σ δ) (pckF ρ γ) 6) (cpyN (valF σ δ) (valF ρ γ) 18) (cpyN (demF σ δ) (demF ρ γ) 18) (cpyN (lotF σ δ) (lotF ρ γ) 54) (cpyN (worF σ δ) (worF ρ γ) 18) (σ 4) (σ 0) (σ 1) (ρ 2) (ρ 3), aucW Y o σ δ] H locs := hw
  refine lv_aload_n hx hb dX1_become_171 rfl (lv_at hl 0 rfl) ?_
  refine lv_aload_n hx hb dX1_become_172 rfl (lv_at hl 1 rfl) ?_
  refine x_get M hK hw 1 0 rfl rfl ff_X1_56 rfl dX1_become_173 ?_
  refine x_put M hK hw 0 0 rfl rfl fp_X1_56 rfl rfl (Nat.le_of_ble_eq_true rfl) dX1_become_176 (fun H locs hw => ?_)
  have hw : xW G A s.heap [aucR Y h (cpyN (supF σ) (supF ρ) 3) (cpyN (ptsF σ) (ptsF ρ) 3) (cpyN (priF σ) (priF ρ) 3) (cpyN (rgtF σ δ) (rgtF ρ γ) 6) (cpyN (capF σ δ) (capF ρ γ) 6) (cpyN (pckF σ δ) (pckF ρ γ) 6) (cpyN (valF σ δ) (valF ρ γ) 18) (cpyN (demF σ δ) (demF ρ γ) 18) (cpyN (lotF σ δ) (lotF ρ γ) 54) (cpyN (worF σ δ) (worF ρ γ) 18) (σ 4) (σ 0) (σ 1) (σ 2) (ρ 3), aucW Y o σ δ] H locs := hw
  refine lv_aload_n hx hb dX1_become_179 rfl (lv_at hl 0 rfl) ?_
  refine lv_aload_n hx hb dX1_become_180 rfl (lv_at hl 1 rfl) ?_
  refine x_get M hK hw 1 0 rfl rfl ff_X1_59 rfl dX1_become_181 ?_
  refine x_put M hK hw 0 0 rfl rfl fp_X1_59 rfl rfl (Nat.le_of_ble_eq_true rfl) dX1_become_184 (fun H locs hw => ?_)
  have hw : xW G A s.heap [aucR Y h (cpyN (supF σ) (supF ρ) 3) (cpyN (ptsF σ) (ptsF ρ) 3) (cpyN (priF σ) (priF ρ) 3) (cpyN (rgtF σ δ) (rgtF ρ γ) 6) (cpyN (capF σ δ) (capF ρ γ) 6) (cpyN (pckF σ δ) (pckF ρ γ) 6) (cpyN (valF σ δ) (valF ρ γ) 18) (cpyN (demF σ δ) (demF ρ γ) 18) (cpyN (lotF σ δ) (lotF ρ γ) 54) (cpyN (worF σ δ) (worF ρ γ) 18) (σ 4) (σ 0) (σ 1) (σ 2) (σ 3), aucW Y o σ δ] H locs := hw
  have hw := auc_become (i := 0) (σ := σ) (δ := δ) hw rfl
  have hw : xW G A s.heap [aucW Y h σ δ, aucW Y o σ δ] H locs := hw
  exact hret _ _ _ _ _ dX1_become_187 hw rfl rfl
set_option maxHeartbeats 4000000 in
set_option maxRecDepth 20000 in
theorem k_X1_bidByValues (l : Launch) (G : va_G) (Y : Nat → Nat) (h j : Nat) (ρ : Nat → Nat) (γ : Nat → Nat → Nat) (hI : Inv ρ) (hj : j < ρ 4) : CtV l yX1_bidByValues cX1_bidByValues 11 3 65 [.ref h, .int (nI j)] [aucW Y h ρ γ] (fun sg => ∃ γ' : Nat → Nat → Nat, sg = [aucW Y h (mBid ρ j) γ']) G Y := by
  refine x_ofV (by decide) (Nat.le_of_ble_eq_true rfl) (fun p e s m args below meth c A ls Q M hK hZ hw hl hret => ?_)
  obtain ⟨hx, hb, -⟩ := id M
  have hl : lv_has ls 11 [(0, .ref h), (1, .int (nI j))] := hl
  have := hI.n6
  have := hI.over
  have := hI.keep
  have := hI.stepp
  refine lv_aload_n hx hb dX1_bidByValues_0 rfl (lv_at hl 0 rfl) ?_
  refine lv_iload_n hx hb dX1_bidByValues_1 rfl (lv_at hl 1 rfl) ?_
  refine lv_iconst (v := (nI 0)) hx hb dX1_bidByValues_2 (by decide) ?_
  refine x_cVI (As := [.int (nI j), .int (nI 0)]) (k_X1_mostWanted l G Y h j 0 ρ γ (hI) (by omega) (by omega)) cw_X1_118 [0] 0 0 M hK hZ hw hl.1 rfl (by decide) rfl rfl rfl ⟨by decide, by decide⟩ ⟨Nat.zero_le _, Nat.zero_le _⟩ rfl rfl (Nat.le_of_ble_eq_true rfl) dX1_bidByValues_3 (fun r sg h_1 H locs hw => ?_)
  obtain ⟨rfl, rfl⟩ := h_1
  have hw : xW G A s.heap [aucW Y h ρ γ] H locs := hw
  have q_2 : wantd ρ j 0 ≤ 9 := wantd_le hI (by omega)
  refine lv_istore_n (lv' := [(2, .int (nI (wantd ρ j 0))), (0, .ref h), (1, .int (nI j))]) hx hb dX1_bidByValues_6 rfl hl (by decide) rfl (fun ls hl => ?_)
  refine lv_aload_n hx hb dX1_bidByValues_7 rfl (lv_at hl 1 rfl) ?_
  refine lv_iload_n hx hb dX1_bidByValues_8 rfl (lv_at hl 2 rfl) ?_
  refine lv_iconst (v := (nI 1)) hx hb dX1_bidByValues_9 (by decide) ?_
  refine x_cVI (As := [.int (nI j), .int (nI 1)]) (k_X1_mostWanted l G Y h j 1 ρ γ (hI) (by omega) (by omega)) cw_X1_118 [0] 0 0 M hK hZ hw hl.1 rfl (by decide) rfl rfl rfl ⟨by decide, by decide⟩ ⟨Nat.zero_le _, Nat.zero_le _⟩ rfl rfl (Nat.le_of_ble_eq_true rfl) dX1_bidByValues_10 (fun r sg h_3 H locs hw => ?_)
  obtain ⟨rfl, rfl⟩ := h_3
  have hw : xW G A s.heap [aucW Y h ρ γ] H locs := hw
  have q_4 : wantd ρ j 1 ≤ 9 := wantd_le hI (by omega)
  refine lv_istore_n (lv' := [(3, .int (nI (wantd ρ j 1))), (2, .int (nI (wantd ρ j 0))), (0, .ref h), (1, .int (nI j))]) hx hb dX1_bidByValues_13 rfl hl (by decide) rfl (fun ls hl => ?_)
  refine lv_aload_n hx hb dX1_bidByValues_14 rfl (lv_at hl 2 rfl) ?_
  refine lv_iload_n hx hb dX1_bidByValues_15 rfl (lv_at hl 3 rfl) ?_
  refine lv_iconst (v := (nI 2)) hx hb dX1_bidByValues_16 (by decide) ?_
  refine x_cVI (As := [.int (nI j), .int (nI 2)]) (k_X1_mostWanted l G Y h j 2 ρ γ (hI) (by omega) (by omega)) cw_X1_118 [0] 0 0 M hK hZ hw hl.1 rfl (by decide) rfl rfl rfl ⟨by decide, by decide⟩ ⟨Nat.zero_le _, Nat.zero_le _⟩ rfl rfl (Nat.le_of_ble_eq_true rfl) dX1_bidByValues_17 (fun r sg h_5 H locs hw => ?_)
  obtain ⟨rfl, rfl⟩ := h_5
  have hw : xW G A s.heap [aucW Y h ρ γ] H locs := hw
  have q_6 : wantd ρ j 2 ≤ 9 := wantd_le hI (by omega)
  refine lv_istore (lv' := [(4, .int (nI (wantd ρ j 2))), (3, .int (nI (wantd ρ j 1))), (2, .int (nI (wantd ρ j 0))), (0, .ref h), (1, .int (nI j))]) hx hb dX1_bidByValues_20 hl (by decide) rfl (fun ls hl => ?_)
  refine lv_iconst (v := (Int32.ofInt (-1))) hx hb dX1_bidByValues_22 (by decide) ?_
  refine lv_istore (lv' := [(5, .int (Int32.ofInt (-1))), (4, .int (nI (wantd ρ j 2))), (3, .int (nI (wantd ρ j 1))), (2, .int (nI (wantd ρ j 0))), (0, .ref h), (1, .int (nI j))]) hx hb dX1_bidByValues_23 hl (by decide) rfl (fun ls hl => ?_)
  refine lv_iconst (v := (nI 0)) hx hb dX1_bidByValues_25 (by decide) ?_
  refine lv_istore (lv' := [(6, .int (nI 0)), (5, .int (Int32.ofInt (-1))), (4, .int (nI (wantd ρ j 2))), (3, .int (nI (wantd ρ j 1))), (2, .int (nI (wantd ρ j 0))), (0, .ref h), (1, .int (nI j))]) hx hb dX1_bidByValues_26 hl (by decide) rfl (fun ls hl => ?_)
  have L28 : ∀ (fu : Nat) (a : Nat) (σ : Nat → Nat) (γs : Nat → Nat → Nat) (g : Int), (1 + wantd ρ j 0 - a < fu) → (a ≤ 1 + wantd ρ j 0) → (CB ρ j a 0 σ g) → ∀ (H : Heap) (locs : List Loc), xW G A s.heap [aucW Y h σ γs] H locs → ∀ (ls : Array Slot), lv_has ls 11 [(0, .ref h), (1, .int (nI j)), (2, .int (nI (wantd ρ j 0))), (3, .int (nI (wantd ρ j 1))), (4, .int (nI (wantd ρ j 2))), (5, .int (Int32.ofInt g)), (6, .int (nI a))] → W p l e (xRm 3 65) s m args below meth c H locs 0 0 Q (F0 m 28 ls []) := by
    intro fu
    induction fu with
    | zero => intro a σ γs g hm; exact absurd hm (Nat.not_lt_zero _)
    | succ fu ih28 =>
      intro a σ γs g hm ha hc H locs hw ls hl
      refine lv_iload hx hb dX1_bidByValues_28 (lv_at hl 6 rfl) ?_
      refine lv_iload_n hx hb dX1_bidByValues_30 rfl (lv_at hl 2 rfl) ?_
      refine x_cgt M (tgt := 162) (by omega) (by omega) dX1_bidByValues_31 (by decide) (fun c_7 => ?_) (fun c_7 => ?_)
      · obtain rfl : a = 1 + wantd ρ j 0 := by omega
        have hE := cb_best hI hj hc
        rw [hE] at hw
        exact hret _ _ _ _ _ dX1_bidByValues_162 hw rfl ⟨_, rfl⟩
      refine lv_iconst (v := (nI 0)) hx hb dX1_bidByValues_34 (by decide) ?_
      refine lv_istore (lv' := [(7, .int (nI 0)), (0, .ref h), (1, .int (nI j)), (2, .int (nI (wantd ρ j 0))), (3, .int (nI (wantd ρ j 1))), (4, .int (nI (wantd ρ j 2))), (5, .int (Int32.ofInt g)), (6, .int (nI a))]) hx hb dX1_bidByValues_35 hl (by decide) rfl (fun ls hl => ?_)
      have L37 : ∀ (fu : Nat) (b : Nat) (τ : Nat → Nat) (γt : Nat → Nat → Nat) (k : Int), (1 + wantd ρ j 1 - b < fu) → (b ≤ 1 + wantd ρ j 1) → (CB ρ j a b τ k) → ∀ (H : Heap) (locs : List Loc), xW G A s.heap [aucW Y h τ γt] H locs → ∀ (ls : Array Slot), lv_has ls 11 [(0, .ref h), (1, .int (nI j)), (2, .int (nI (wantd ρ j 0))), (3, .int (nI (wantd ρ j 1))), (4, .int (nI (wantd ρ j 2))), (5, .int (Int32.ofInt k)), (6, .int (nI a)), (7, .int (nI b))] → W p l e (xRm 3 65) s m args below meth c H locs 0 0 Q (F0 m 37 ls []) := by
        intro fu
        induction fu with
        | zero => intro b τ γt k hm; exact absurd hm (Nat.not_lt_zero _)
        | succ fu ih37 =>
          intro b τ γt k hm hb1 hc2 H locs hw ls hl
          have hIτ := hc2.inv hI hj
          have t14 : τ (14 + 21 * j) = ρ (14 + 21 * j) := hc2.o (by omega)
          have t8 : τ 8 = ρ 8 := hc2.o (by omega)
          have t9 : τ 9 = ρ 9 := hc2.o (by omega)
          have t10 : τ 10 = ρ 10 := hc2.o (by omega)
          have t4 : τ 4 = ρ 4 := hc2.o (by omega)
          have tm0 := hc2.mg (k := 0) (by decide)
          have tm1 := hc2.mg (k := 1) (by decide)
          have tm2 := hc2.mg (k := 2) (by decide)
          refine lv_iload hx hb dX1_bidByValues_37 (lv_at hl 7 rfl) ?_
          refine lv_iload_n hx hb dX1_bidByValues_39 rfl (lv_at hl 3 rfl) ?_
          refine x_cgt M (tgt := 156) (by omega) (by omega) dX1_bidByValues_40 (by decide) (fun c_8 => ?_) (fun c_8 => ?_)
          · refine lv_iinc (v := (nI (1 + a))) (lv' := [(6, .int (nI (1 + a))), (0, .ref h), (1, .int (nI j)), (2, .int (nI (wantd ρ j 0))), (3, .int (nI (wantd ρ j 1))), (4, .int (nI (wantd ρ j 2))), (5, .int (Int32.ofInt k)), (7, .int (nI b))]) hx hb dX1_bidByValues_156 hl (k := 6) rfl (by rw [show (1 : Int) = ((1 : Nat) : Int) from rfl, nI_inc]; exact congrArg nI (by omega)) (by decide) rfl (fun ls hl => ?_)
            refine lv_goto (tgt := 28) hx hb dX1_bidByValues_159 (by decide) ?_
            exact ih28 (1 + a) τ γt k (by omega) (by omega) (cb_row (Or.inl (by omega)) hc2) _ _ hw _ (lv_sub hl [1, 2, 3, 4, 5, 6, 0] rfl)
          refine lv_aload_n hx hb dX1_bidByValues_43 rfl (lv_at hl 0 rfl) ?_
          refine x_get M hK hw 0 0 rfl rfl ff_X1_21 rfl dX1_bidByValues_44 ?_
          refine lv_iload_n hx hb dX1_bidByValues_47 rfl (lv_at hl 1 rfl) ?_
          refine x_iald M hK hw 0 4 rfl rfl (by omega) (by decide) dX1_bidByValues_48 ?_
          refine x_topN (n := τ (14 + 21 * j)) (congrArg nI (rgt_at (j := j) (by omega) rfl (by omega))) ?_
          have q_9 : τ (14 + 21 * j) ≤ 99 := hIτ.rgt (j := j) (by omega) (by omega)
          refine lv_iload hx hb dX1_bidByValues_49 (lv_at hl 6 rfl) ?_
          refine lv_aload_n hx hb dX1_bidByValues_51 rfl (lv_at hl 0 rfl) ?_
          refine x_get M hK hw 0 0 rfl rfl ff_X1_15 rfl dX1_bidByValues_52 ?_
          refine lv_iconst (v := (nI 0)) hx hb dX1_bidByValues_55 (by decide) ?_
          refine x_iald M hK hw 0 2 rfl rfl (by decide) (by decide) dX1_bidByValues_56 ?_
          refine x_topN (n := τ 8) rfl ?_
          have q_10 : 1 ≤ τ 8 := (hIτ.pts (q := 8) (k := 0) (by decide) rfl).1
          have q_11 : τ 8 ≤ 9 := (hIτ.pts (q := 8) (k := 0) (by decide) rfl).2
          refine x_imul M (n := a * (τ 8)) dX1_bidByValues_57 rfl ?_
          have q_12 : a * (τ 8) ≤ 81 := Nat.le_trans (Nat.mul_le_mul (show a ≤ 9 by omega) (show τ 8 ≤ 9 by omega)) (by decide)
          refine lv_isub hx hb dX1_bidByValues_58 ?_
          refine lv_iload hx hb dX1_bidByValues_59 (lv_at hl 7 rfl) ?_
          refine lv_aload_n hx hb dX1_bidByValues_61 rfl (lv_at hl 0 rfl) ?_
          refine x_get M hK hw 0 0 rfl rfl ff_X1_15 rfl dX1_bidByValues_62 ?_
          refine lv_iconst (v := (nI 1)) hx hb dX1_bidByValues_65 (by decide) ?_
          refine x_iald M hK hw 0 2 rfl rfl (by decide) (by decide) dX1_bidByValues_66 ?_
          refine x_topN (n := τ 9) rfl ?_
          have q_13 : 1 ≤ τ 9 := (hIτ.pts (q := 9) (k := 1) (by decide) rfl).1
          have q_14 : τ 9 ≤ 9 := (hIτ.pts (q := 9) (k := 1) (by decide) rfl).2
          refine x_imul M (n := b * (τ 9)) dX1_bidByValues_67 rfl ?_
          have q_15 : b * (τ 9) ≤ 81 := Nat.le_trans (Nat.mul_le_mul (show b ≤ 9 by omega) (show τ 9 ≤ 9 by omega)) (by decide)
          refine lv_isub hx hb dX1_bidByValues_68 ?_
          refine lv_istore (lv' := [(8, .int (((nI (τ (14 + 21 * j))) - (nI (a * (τ 8)))) - (nI (b * (τ 9))))), (0, .ref h), (1, .int (nI j)), (2, .int (nI (wantd ρ j 0))), (3, .int (nI (wantd ρ j 1))), (4, .int (nI (wantd ρ j 2))), (5, .int (Int32.ofInt k)), (6, .int (nI a)), (7, .int (nI b))]) hx hb dX1_bidByValues_69 hl (by decide) rfl (fun ls hl => ?_)
          refine lv_iload hx hb dX1_bidByValues_71 (lv_at hl 0 rfl) ?_
          refine lv_if_ge (tgt := 79) hx hb dX1_bidByValues_73 (by decide) (fun c_16 => ?_) (fun c_16 => ?_)
          · have hsp : a * ρ 8 + b * ρ 9 ≤ ρ (14 + 21 * j) := by clear hret hw hl M hK hZ hx hb; rw [Int32.le_iff_toInt_le, show (0 : Int32).toInt = 0 from rfl, spare_toInt (by omega) (by omega) (by omega)] at c_16; rw [t14, t8, t9] at c_16; omega
            have e8 : (((nI (τ (14 + 21 * j))) - (nI (a * (τ 8)))) - (nI (b * (τ 9)))) = nI (ρ (14 + 21 * j) - (a * ρ 8 + b * ρ 9)) := by rw [t14, t8, t9]; exact spare_nI hsp
            rw [e8] at hl
            refine lv_iload hx hb dX1_bidByValues_79 (lv_at hl 5 rfl) ?_
            refine lv_iload hx hb dX1_bidByValues_81 (lv_at hl 0 rfl) ?_
            refine lv_aload_n hx hb dX1_bidByValues_83 rfl (lv_at hl 1 rfl) ?_
            refine x_get M hK hw 0 0 rfl rfl ff_X1_15 rfl dX1_bidByValues_84 ?_
            refine lv_iconst (v := (nI 2)) hx hb dX1_bidByValues_87 (by decide) ?_
            refine x_iald M hK hw 0 2 rfl rfl (by decide) (by decide) dX1_bidByValues_88 ?_
            refine x_topN (n := τ 10) rfl ?_
            have q_17 : 1 ≤ τ 10 := (hIτ.pts (q := 10) (k := 2) (by decide) rfl).1
            have q_18 : τ 10 ≤ 9 := (hIτ.pts (q := 10) (k := 2) (by decide) rfl).2
            refine x_cNI (As := [.int (nI (ρ (14 + 21 * j) - (a * ρ 8 + b * ρ 9))), .int (nI (τ 10))]) (k_X5_quotient l G Y (ρ (14 + 21 * j) - (a * ρ 8 + b * ρ 9)) (τ 10) (by omega) (by omega) (by omega)) cw_X1_121 [] M hK hZ hw hl.1 rfl (by decide) ⟨by decide, by decide⟩ ⟨Nat.zero_le _, Nat.zero_le _⟩ rfl rfl (Nat.le_of_ble_eq_true rfl) dX1_bidByValues_89 (fun r sg h_19 H locs hw => ?_)
            obtain ⟨rfl, rfl⟩ := h_19
            have hw : xW G A s.heap [aucW Y h τ γt] H locs := hw
            have q_20 : ((ρ (14 + 21 * j) - (a * ρ 8 + b * ρ 9)) / (τ 10)) ≤ (ρ (14 + 21 * j) - (a * ρ 8 + b * ρ 9)) := Nat.div_le_self _ _
            refine x_topN (n := ((ρ (14 + 21 * j) - (a * ρ 8 + b * ρ 9)) / (τ 10))) (congrArg nI (by omega)) ?_
            refine x_min M hl.1 mw_289 mw_290 mw_13 mw_291 ⟨by decide, by decide⟩ ⟨Nat.zero_le _, Nat.zero_le _⟩ (Nat.le_of_ble_eq_true rfl) (by omega) (by omega) dX1_bidByValues_92 ?_
            refine x_topN (n := n2of ρ j a b) (congrArg nI (by simp only [n2of, t10])) ?_
            refine lv_istore (lv' := [(9, .int (nI (n2of ρ j a b))), (8, .int (nI (ρ (14 + 21 * j) - (a * ρ 8 + b * ρ 9)))), (0, .ref h), (1, .int (nI j)), (2, .int (nI (wantd ρ j 0))), (3, .int (nI (wantd ρ j 1))), (4, .int (nI (wantd ρ j 2))), (5, .int (Int32.ofInt k)), (6, .int (nI a)), (7, .int (nI b))]) hx hb dX1_bidByValues_95 hl (by decide) rfl (fun ls hl => ?_)
            refine lv_iload hx hb dX1_bidByValues_97 (lv_at hl 8 rfl) ?_
            refine lv_aload_n hx hb dX1_bidByValues_99 rfl (lv_at hl 2 rfl) ?_
            refine lv_iload_n hx hb dX1_bidByValues_100 rfl (lv_at hl 3 rfl) ?_
            refine lv_iconst (v := (nI 0)) hx hb dX1_bidByValues_101 (by decide) ?_
            refine x_cVI (As := [.int (nI j), .int (nI 0)]) (k_X1_margin l G Y h j 0 τ γt (hIτ) (by omega) (by omega)) cw_X1_80 [0] 0 0 M hK hZ hw hl.1 rfl (by decide) rfl rfl rfl ⟨by decide, by decide⟩ ⟨Nat.zero_le _, Nat.zero_le _⟩ rfl rfl (Nat.le_of_ble_eq_true rfl) dX1_bidByValues_102 (fun r sg h_21 H locs hw => ?_)
            obtain ⟨rfl, rfl⟩ := h_21
            have hw : xW G A s.heap [aucW Y h τ γt] H locs := hw
            refine lv_imul hx hb dX1_bidByValues_105 ?_
            refine lv_iload hx hb dX1_bidByValues_106 (lv_at hl 9 rfl) ?_
            refine lv_aload_n hx hb dX1_bidByValues_108 rfl (lv_at hl 2 rfl) ?_
            refine lv_iload_n hx hb dX1_bidByValues_109 rfl (lv_at hl 3 rfl) ?_
            refine lv_iconst (v := (nI 1)) hx hb dX1_bidByValues_110 (by decide) ?_
            refine x_cVI (As := [.int (nI j), .int (nI 1)]) (k_X1_margin l G Y h j 1 τ γt (hIτ) (by omega) (by omega)) cw_X1_80 [0] 0 0 M hK hZ hw hl.1 rfl (by decide) rfl rfl rfl ⟨by decide, by decide⟩ ⟨Nat.zero_le _, Nat.zero_le _⟩ rfl rfl (Nat.le_of_ble_eq_true rfl) dX1_bidByValues_111 (fun r sg h_22 H locs hw => ?_)
            obtain ⟨rfl, rfl⟩ := h_22
            have hw : xW G A s.heap [aucW Y h τ γt] H locs := hw
            refine lv_imul hx hb dX1_bidByValues_114 ?_
            refine lv_iadd hx hb dX1_bidByValues_115 ?_
            refine lv_iload hx hb dX1_bidByValues_116 (lv_at hl 0 rfl) ?_
            refine lv_aload_n hx hb dX1_bidByValues_118 rfl (lv_at hl 2 rfl) ?_
            refine lv_iload_n hx hb dX1_bidByValues_119 rfl (lv_at hl 3 rfl) ?_
            refine lv_iconst (v := (nI 2)) hx hb dX1_bidByValues_120 (by decide) ?_
            refine x_cVI (As := [.int (nI j), .int (nI 2)]) (k_X1_margin l G Y h j 2 τ γt (hIτ) (by omega) (by omega)) cw_X1_80 [0] 0 0 M hK hZ hw hl.1 rfl (by decide) rfl rfl rfl ⟨by decide, by decide⟩ ⟨Nat.zero_le _, Nat.zero_le _⟩ rfl rfl (Nat.le_of_ble_eq_true rfl) dX1_bidByValues_121 (fun r sg h_23 H locs hw => ?_)
            obtain ⟨rfl, rfl⟩ := h_23
            have hw : xW G A s.heap [aucW Y h τ γt] H locs := hw
            refine lv_imul hx hb dX1_bidByValues_124 ?_
            refine lv_iadd hx hb dX1_bidByValues_125 ?_
            refine x_topI (y := (Int32.ofInt (gv ρ j a b))) (by rw [tm0, tm1, tm2]; exact gi_eq) ?_
            refine lv_istore (lv' := [(10, .int (Int32.ofInt (gv ρ j a b))), (9, .int (nI (n2of ρ j a b))), (8, .int (nI (ρ (14 + 21 * j) - (a * ρ 8 + b * ρ 9)))), (0, .ref h), (1, .int (nI j)), (2, .int (nI (wantd ρ j 0))), (3, .int (nI (wantd ρ j 1))), (4, .int (nI (wantd ρ j 2))), (5, .int (Int32.ofInt k)), (6, .int (nI a)), (7, .int (nI b))]) hx hb dX1_bidByValues_126 hl (by decide) rfl (fun ls hl => ?_)
            refine lv_iload hx hb dX1_bidByValues_128 (lv_at hl 0 rfl) ?_
            refine lv_iload hx hb dX1_bidByValues_130 (lv_at hl 8 rfl) ?_
            refine lv_icmp_le (tgt := 150) hx hb dX1_bidByValues_132 (by decide) (fun c_24 => ?_) (fun c_24 => ?_)
            · refine lv_iinc (v := (nI (1 + b))) (lv' := [(7, .int (nI (1 + b))), (10, .int (Int32.ofInt (gv ρ j a b))), (9, .int (nI (n2of ρ j a b))), (8, .int (nI (ρ (14 + 21 * j) - (a * ρ 8 + b * ρ 9)))), (0, .ref h), (1, .int (nI j)), (2, .int (nI (wantd ρ j 0))), (3, .int (nI (wantd ρ j 1))), (4, .int (nI (wantd ρ j 2))), (5, .int (Int32.ofInt k)), (6, .int (nI a))]) hx hb dX1_bidByValues_150 hl (k := 10) rfl (by rw [show (1 : Int) = ((1 : Nat) : Int) from rfl, nI_inc]; exact congrArg nI (by omega)) (by decide) rfl (fun ls hl => ?_)
              refine lv_goto (tgt := 37) hx hb dX1_bidByValues_153 (by decide) ?_
              exact ih37 (1 + b) τ γt k (by omega) (by omega) (cb_leave (by omega) (by omega) hsp (gv_0 (by omega) (by omega)) (by clear hret hw hl M hK hZ hx hb; exact (ofI32_le (gv_b hI hj (by omega) (by omega)) (hc2.gb hI hj)).mp c_24) hc2) _ _ hw _ (lv_sub hl [4, 5, 6, 7, 8, 9, 10, 0] rfl)
            have hgt : k < gv ρ j a b := by clear hret hw hl M hK hZ hx hb; have := mt (ofI32_le (gv_b hI hj (by omega) (by omega)) (hc2.gb hI hj)).mpr c_24; omega
            refine lv_iload hx hb dX1_bidByValues_135 (lv_at hl 0 rfl) ?_
            refine lv_istore (lv' := [(5, .int (Int32.ofInt (gv ρ j a b))), (10, .int (Int32.ofInt (gv ρ j a b))), (9, .int (nI (n2of ρ j a b))), (8, .int (nI (ρ (14 + 21 * j) - (a * ρ 8 + b * ρ 9)))), (0, .ref h), (1, .int (nI j)), (2, .int (nI (wantd ρ j 0))), (3, .int (nI (wantd ρ j 1))), (4, .int (nI (wantd ρ j 2))), (6, .int (nI a)), (7, .int (nI b))]) hx hb dX1_bidByValues_137 hl (by decide) rfl (fun ls hl => ?_)
            refine lv_aload_n hx hb dX1_bidByValues_139 rfl (lv_at hl 4 rfl) ?_
            refine lv_iload_n hx hb dX1_bidByValues_140 rfl (lv_at hl 5 rfl) ?_
            refine lv_iload hx hb dX1_bidByValues_141 (lv_at hl 9 rfl) ?_
            refine lv_iload hx hb dX1_bidByValues_143 (lv_at hl 10 rfl) ?_
            refine lv_iload hx hb dX1_bidByValues_145 (lv_at hl 2 rfl) ?_
            refine x_cVV (As := [.int (nI j), .int (nI a), .int (nI b), .int (nI (n2of ρ j a b))]) (k_X1_changeDemands l G Y h j a b (n2of ρ j a b) (τ 4) (τ 0) (τ 1) (τ 2) (τ 3) (supF τ) (ptsF τ) (priF τ) (rgtF τ γt) (capF τ γt) (pckF τ γt) (valF τ γt) (demF τ γt) (lotF τ γt) (worF τ γt) (by omega)) cw_X1_114 [0] 0 0 M hK hZ hw hl.1 rfl (by decide) rfl rfl rfl ⟨by decide, by decide⟩ ⟨Nat.zero_le _, Nat.zero_le _⟩ rfl rfl (Nat.le_of_ble_eq_true rfl) dX1_bidByValues_147 (fun sg h_25 H locs hw => ?_)
            obtain rfl := h_25
            have hw : xW G A s.heap [aucR Y h (supF τ) (ptsF τ) (priF τ) (rgtF τ γt) (capF τ γt) (pckF τ γt) (valF τ γt) (setN (setN (setN (demF τ γt) (3 * j) a) (1 + 3 * j) b) (2 + 3 * j) (n2of ρ j a b)) (lotF τ γt) (worF τ γt) (τ 4) (τ 0) (τ 1) (τ 2) (τ 3)] H locs := hw
            have hN26 : (mDem τ j a b (n2of ρ j a b)) 4 = τ 4 := by clear hret hw hl M hK hZ hx hb; simp only [mDem, setN, if_true, if_false, reduceIte] <;> (repeat' split) <;> first | rfl | (exfalso; omega) | omega
            obtain ⟨γ27, hw⟩ := auc_fold (i := 0) (ρ' := mDem τ j a b (n2of ρ j a b)) hw rfl hN26.symm (by clear hret hw hl M hK hZ hx hb; simp only [mDem, setN, if_true, if_false, reduceIte] <;> (repeat' split) <;> first | rfl | (exfalso; omega) | omega) (by clear hret hw hl M hK hZ hx hb; simp only [mDem, setN, if_true, if_false, reduceIte] <;> (repeat' split) <;> first | rfl | (exfalso; omega) | omega) (by clear hret hw hl M hK hZ hx hb; simp only [mDem, setN, if_true, if_false, reduceIte] <;> (repeat' split) <;> first | rfl | (exfalso; omega) | omega) (by clear hret hw hl M hK hZ hx hb; simp only [mDem, setN, if_true, if_false, reduceIte] <;> (repeat' split) <;> first | rfl | (exfalso; omega) | omega) (by clear hret hw hl M hK hZ hx hb; intro k9 hk9; (try simp only [mDem, setN, if_true, if_false, reduceIte, supF]) <;> (repeat' split) <;> first | rfl | (exfalso; omega) | omega) (by clear hret hw hl M hK hZ hx hb; intro k9 hk9; (try simp only [mDem, setN, if_true, if_false, reduceIte, ptsF]) <;> (repeat' split) <;> first | rfl | (exfalso; omega) | omega) (by clear hret hw hl M hK hZ hx hb; intro k9 hk9; (try simp only [mDem, setN, if_true, if_false, reduceIte, priF]) <;> (repeat' split) <;> first | rfl | (exfalso; omega) | omega) (by clear hret hw hl M hK hZ hx hb; intro b9 hb1; rw [hN26] at hb1; rcases Nat.lt_trichotomy b9 j with q9 | q9 | q9; (rw [mDem_o (by omega)]; (repeat rw [setN_n (by omega)]); exact rgt_at (by omega) rfl rfl); (subst q9; (try simp only [mDem, setN, if_true, if_false, reduceIte]) <;> (repeat' split) <;> first | rfl | (exfalso; omega) | exact rgt_at (by omega) rfl rfl | omega); (rw [mDem_o (by omega)]; (repeat rw [setN_n (by omega)]); exact rgt_at (by omega) rfl rfl)) (by clear hret hw hl M hK hZ hx hb; intro b9 hb1; rw [hN26] at hb1; rcases Nat.lt_trichotomy b9 j with q9 | q9 | q9; (rw [mDem_o (by omega)]; (repeat rw [setN_n (by omega)]); exact cap_at (by omega) rfl rfl); (subst q9; (try simp only [mDem, setN, if_true, if_false, reduceIte]) <;> (repeat' split) <;> first | rfl | (exfalso; omega) | exact cap_at (by omega) rfl rfl | omega); (rw [mDem_o (by omega)]; (repeat rw [setN_n (by omega)]); exact cap_at (by omega) rfl rfl)) (by clear hret hw hl M hK hZ hx hb; intro b9 hb1; rw [hN26] at hb1; rcases Nat.lt_trichotomy b9 j with q9 | q9 | q9; (rw [mDem_o (by omega)]; (repeat rw [setN_n (by omega)]); exact pck_at (by omega) rfl rfl); (subst q9; (try simp only [mDem, setN, if_true, if_false, reduceIte]) <;> (repeat' split) <;> first | rfl | (exfalso; omega) | exact pck_at (by omega) rfl rfl | omega); (rw [mDem_o (by omega)]; (repeat rw [setN_n (by omega)]); exact pck_at (by omega) rfl rfl)) (by clear hret hw hl M hK hZ hx hb; intro b9 k9 hb1 hk9; rw [hN26] at hb1; rcases Nat.lt_trichotomy b9 j with q9 | q9 | q9; (rw [mDem_o (by omega)]; (repeat rw [setN_n (by omega)]); exact val_at (by omega) (by omega) rfl rfl); (subst q9; (try simp only [mDem, setN, if_true, if_false, reduceIte]) <;> (repeat' split) <;> first | rfl | (exfalso; omega) | exact val_at (by omega) (by omega) rfl rfl | omega); (rw [mDem_o (by omega)]; (repeat rw [setN_n (by omega)]); exact val_at (by omega) (by omega) rfl rfl)) (by clear hret hw hl M hK hZ hx hb; intro b9 k9 hb1 hk9; rw [hN26] at hb1; rcases Nat.lt_trichotomy b9 j with q9 | q9 | q9; (rw [mDem_o (by omega)]; (repeat rw [setN_n (by omega)]); exact dem_at (by omega) (by omega) rfl rfl); (subst q9; (try simp only [mDem, setN, if_true, if_false, reduceIte]) <;> (repeat' split) <;> first | rfl | (exfalso; omega) | exact dem_at (by omega) (by omega) rfl rfl | omega); (rw [mDem_o (by omega)]; (repeat rw [setN_n (by omega)]); exact dem_at (by omega) (by omega) rfl rfl)) (by clear hret hw hl M hK hZ hx hb; intro b9 i9 k9 hb1 hi9 h39 hk9; rw [hN26] at hb1; rcases Nat.lt_trichotomy b9 j with q9 | q9 | q9; (rw [mDem_o (by omega)]; rw [mDem_o (by omega)] at hi9; (repeat rw [setN_n (by omega)]); exact lot_at (by omega) (by omega) (by omega) (by omega) rfl rfl); (subst q9; simp only [mDem, setN, if_true, if_false, reduceIte] at hi9; (try simp only [mDem, setN, if_true, if_false, reduceIte]) <;> (repeat' split at hi9) <;> (repeat' split) <;> first | rfl | (exfalso; omega) | exact lot_at (by omega) (by omega) (by omega) (by omega) rfl rfl | omega); (rw [mDem_o (by omega)]; rw [mDem_o (by omega)] at hi9; (repeat rw [setN_n (by omega)]); exact lot_at (by omega) (by omega) (by omega) (by omega) rfl rfl)) (by clear hret hw hl M hK hZ hx hb; intro b9 i9 hb1 hi9 h39; rw [hN26] at hb1; rcases Nat.lt_trichotomy b9 j with q9 | q9 | q9; (rw [mDem_o (by omega)]; rw [mDem_o (by omega)] at hi9; (repeat rw [setN_n (by omega)]); exact wor_at (by omega) (by omega) (by omega) rfl rfl); (subst q9; simp only [mDem, setN, if_true, if_false, reduceIte] at hi9; (try simp only [mDem, setN, if_true, if_false, reduceIte]) <;> (repeat' split at hi9) <;> (repeat' split) <;> first | rfl | (exfalso; omega) | exact wor_at (by omega) (by omega) (by omega) rfl rfl | omega); (rw [mDem_o (by omega)]; rw [mDem_o (by omega)] at hi9; (repeat rw [setN_n (by omega)]); exact wor_at (by omega) (by omega) (by omega) rfl rfl))
            have hw : xW G A s.heap [aucW Y h (mDem τ j a b (n2of ρ j a b)) γ27] H locs := hw
            have hc3 := cb_take (by omega) (by omega) hsp hgt hc2
            refine lv_iinc (v := (nI (1 + b))) (lv' := [(7, .int (nI (1 + b))), (5, .int (Int32.ofInt (gv ρ j a b))), (10, .int (Int32.ofInt (gv ρ j a b))), (9, .int (nI (n2of ρ j a b))), (8, .int (nI (ρ (14 + 21 * j) - (a * ρ 8 + b * ρ 9)))), (0, .ref h), (1, .int (nI j)), (2, .int (nI (wantd ρ j 0))), (3, .int (nI (wantd ρ j 1))), (4, .int (nI (wantd ρ j 2))), (6, .int (nI a))]) hx hb dX1_bidByValues_150 hl (k := 10) rfl (by rw [show (1 : Int) = ((1 : Nat) : Int) from rfl, nI_inc]; exact congrArg nI (by omega)) (by decide) rfl (fun ls hl => ?_)
            refine lv_goto (tgt := 37) hx hb dX1_bidByValues_153 (by decide) ?_
            exact ih37 (1 + b) (mDem τ j a b (n2of ρ j a b)) γ27 (gv ρ j a b) (by omega) (by omega) (hc3) _ _ hw _ (lv_sub hl [5, 6, 7, 8, 9, 1, 10, 0] rfl)
          refine lv_goto (tgt := 156) hx hb dX1_bidByValues_76 (by decide) ?_
          refine lv_iinc (v := (nI (1 + a))) (lv' := [(6, .int (nI (1 + a))), (8, .int (((nI (τ (14 + 21 * j))) - (nI (a * (τ 8)))) - (nI (b * (τ 9))))), (0, .ref h), (1, .int (nI j)), (2, .int (nI (wantd ρ j 0))), (3, .int (nI (wantd ρ j 1))), (4, .int (nI (wantd ρ j 2))), (5, .int (Int32.ofInt k)), (7, .int (nI b))]) hx hb dX1_bidByValues_156 hl (k := 7) rfl (by rw [show (1 : Int) = ((1 : Nat) : Int) from rfl, nI_inc]; exact congrArg nI (by omega)) (by decide) rfl (fun ls hl => ?_)
          refine lv_goto (tgt := 28) hx hb dX1_bidByValues_159 (by decide) ?_
          exact ih28 (1 + a) τ γt k (by omega) (by omega) (cb_row (Or.inr (by clear hret hw hl M hK hZ hx hb; rw [Int32.le_iff_toInt_le, show (0 : Int32).toInt = 0 from rfl, spare_toInt (by omega) (by omega) (by omega)] at c_16; rw [t14, t8, t9] at c_16; omega)) hc2) _ _ hw _ (lv_sub hl [2, 3, 4, 5, 6, 7, 0] rfl)
      exact L37 (1 + wantd ρ j 1 - 0 + 1) 0 σ γs g (Nat.lt_succ_self _) (by omega) (hc) _ _ hw _ (lv_sub hl [1, 2, 3, 4, 5, 6, 7, 0] rfl)
  exact L28 (1 + wantd ρ j 0 - 0 + 1) 0 ρ γ (-1) (Nat.lt_succ_self _) (by omega) (cb_0) _ _ hw _ (lv_sub hl [5, 6, 4, 3, 2, 1, 0] rfl)
