set_option maxHeartbeats 4000000 in
set_option maxRecDepth 20000 in
theorem k_X6_begin (l : Launch) (G : va_G) (Y : Nat → Nat) (a : Nat) (f : Nat → Nat)  : CtV l yX6_begin cX6_begin 2 0 0 [.ref a] [[(a, .inl (Y 0, 140, .inl (rowF f)))]] (fun sg => sg = [[(a, .inl (Y 0, 140, .inl (rowF row0)))]]) G Y := by
  refine x_ofV (by decide) (Nat.le_of_ble_eq_true rfl) (fun p e s m args below meth c A ls Q M hK hZ hw hl hret => ?_)
  obtain ⟨hx, hb, -⟩ := id M
  have hl : lv_has ls 2 [(0, .ref a)] := hl
  refine lv_iconst (v := (nI 0)) hx hb dX6_begin_0 (by decide) ?_
  refine lv_istore_n (lv' := [(1, .int (nI 0)), (0, .ref a)]) hx hb dX6_begin_1 rfl hl (by decide) rfl (fun ls hl => ?_)
  have L2 : ∀ (fu : Nat) (i : Nat) (g : Nat → Nat), (140 - i < fu) → (i ≤ 140) → (∀ q, q < i → g q = 0) → ∀ (H : Heap) (locs : List Loc), xW G A s.heap [[(a, .inl (Y 0, 140, .inl (rowF g)))]] H locs → ∀ (ls : Array Slot), lv_has ls 2 [(0, .ref a), (1, .int (nI i))] → W p l e (xRm 0 0) s m args below meth c H locs 0 0 Q (F0 m 2 ls []) := by
    intro fu
    induction fu with
    | zero => intro i g hm; exact absurd hm (Nat.not_lt_zero _)
    | succ fu ih2 =>
      intro i g hm hi hg H locs hw ls hl
      refine lv_iload_n hx hb dX6_begin_2 rfl (lv_at hl 1 rfl) ?_
      refine lv_sipush (v := (nI 140)) hx hb dX6_begin_3 (by decide) ?_
      refine x_cge M (tgt := 19) (by omega) (by decide) dX6_begin_6 (by decide) (fun c_1 => ?_) (fun c_1 => ?_)
      · refine lv_aload_n hx hb dX6_begin_19 rfl (lv_at hl 0 rfl) ?_
        refine lv_iconst (v := (nI 2)) hx hb dX6_begin_20 (by decide) ?_
        refine lv_bipush (v := (nI 100)) hx hb dX6_begin_21 (by decide) ?_
        refine x_iast M hK hw 0 0 rfl rfl (by decide) (by decide) dX6_begin_23 (fun H locs hw => ?_)
        rw [upd_row] at hw
        have hw : xW G A s.heap [[(a, .inl (Y 0, 140, .inl (rowF (setN g 2 100))))]] H locs := hw
        refine lv_aload_n hx hb dX6_begin_24 rfl (lv_at hl 0 rfl) ?_
        refine lv_iconst (v := (nI 3)) hx hb dX6_begin_25 (by decide) ?_
        refine lv_bipush (v := (nI 10)) hx hb dX6_begin_26 (by decide) ?_
        refine x_iast M hK hw 0 0 rfl rfl (by decide) (by decide) dX6_begin_28 (fun H locs hw => ?_)
        rw [upd_row] at hw
        have hw : xW G A s.heap [[(a, .inl (Y 0, 140, .inl (rowF (setN (setN g 2 100) 3 10))))]] H locs := hw
        refine lv_iconst (v := (nI 0)) hx hb dX6_begin_29 (by decide) ?_
        refine lv_istore_n (lv' := [(1, .int (nI 0)), (0, .ref a)]) hx hb dX6_begin_30 rfl hl (by decide) rfl (fun ls hl => ?_)
        refine lv_iload_n hx hb dX6_begin_31 rfl (lv_at hl 0 rfl) ?_
        refine lv_iconst (v := (nI 3)) hx hb dX6_begin_32 (by decide) ?_
        refine x_cge M (tgt := 63) (by decide) (by decide) dX6_begin_33 (by decide) (fun c_2 => absurd c_2 (by decide)) (fun c_2 => ?_)
        refine lv_aload_n hx hb dX6_begin_36 rfl (lv_at hl 1 rfl) ?_
        refine lv_iconst (v := (nI 5)) hx hb dX6_begin_37 (by decide) ?_
        refine lv_iload_n hx hb dX6_begin_38 rfl (lv_at hl 0 rfl) ?_
        refine x_iadd M (n := 5) dX6_begin_39 rfl ?_
        refine lv_iconst (v := (nI 2)) hx hb dX6_begin_40 (by decide) ?_
        refine x_iast M hK hw 0 0 rfl rfl (by decide) (by decide) dX6_begin_41 (fun H locs hw => ?_)
        rw [upd_row] at hw
        have hw : xW G A s.heap [[(a, .inl (Y 0, 140, .inl (rowF (setN (setN (setN g 2 100) 3 10) 5 2))))]] H locs := hw
        refine lv_aload_n hx hb dX6_begin_42 rfl (lv_at hl 1 rfl) ?_
        refine lv_bipush (v := (nI 8)) hx hb dX6_begin_43 (by decide) ?_
        refine lv_iload_n hx hb dX6_begin_45 rfl (lv_at hl 0 rfl) ?_
        refine x_iadd M (n := 8) dX6_begin_46 rfl ?_
        refine lv_iconst (v := (nI 1)) hx hb dX6_begin_47 (by decide) ?_
        refine x_iast M hK hw 0 0 rfl rfl (by decide) (by decide) dX6_begin_48 (fun H locs hw => ?_)
        rw [upd_row] at hw
        have hw : xW G A s.heap [[(a, .inl (Y 0, 140, .inl (rowF (setN (setN (setN (setN g 2 100) 3 10) 5 2) 8 1))))]] H locs := hw
        refine lv_aload_n hx hb dX6_begin_49 rfl (lv_at hl 1 rfl) ?_
        refine lv_bipush (v := (nI 11)) hx hb dX6_begin_50 (by decide) ?_
        refine lv_iload_n hx hb dX6_begin_52 rfl (lv_at hl 0 rfl) ?_
        refine x_iadd M (n := 11) dX6_begin_53 rfl ?_
        refine lv_bipush (v := (nI 10)) hx hb dX6_begin_54 (by decide) ?_
        refine x_iast M hK hw 0 0 rfl rfl (by decide) (by decide) dX6_begin_56 (fun H locs hw => ?_)
        rw [upd_row] at hw
        have hw : xW G A s.heap [[(a, .inl (Y 0, 140, .inl (rowF (setN (setN (setN (setN (setN g 2 100) 3 10) 5 2) 8 1) 11 10))))]] H locs := hw
        refine lv_iinc (v := (nI 1)) (lv' := [(1, .int (nI 1)), (0, .ref a)]) hx hb dX6_begin_57 hl (k := 0) rfl (by decide) (by decide) rfl (fun ls hl => ?_)
        refine lv_goto (tgt := 31) hx hb dX6_begin_60 (by decide) ?_
        refine lv_iload_n hx hb dX6_begin_31 rfl (lv_at hl 0 rfl) ?_
        refine lv_iconst (v := (nI 3)) hx hb dX6_begin_32 (by decide) ?_
        refine x_cge M (tgt := 63) (by decide) (by decide) dX6_begin_33 (by decide) (fun c_3 => absurd c_3 (by decide)) (fun c_3 => ?_)
        refine lv_aload_n hx hb dX6_begin_36 rfl (lv_at hl 1 rfl) ?_
        refine lv_iconst (v := (nI 5)) hx hb dX6_begin_37 (by decide) ?_
        refine lv_iload_n hx hb dX6_begin_38 rfl (lv_at hl 0 rfl) ?_
        refine x_iadd M (n := 6) dX6_begin_39 rfl ?_
        refine lv_iconst (v := (nI 2)) hx hb dX6_begin_40 (by decide) ?_
        refine x_iast M hK hw 0 0 rfl rfl (by decide) (by decide) dX6_begin_41 (fun H locs hw => ?_)
        rw [upd_row] at hw
        have hw : xW G A s.heap [[(a, .inl (Y 0, 140, .inl (rowF (setN (setN (setN (setN (setN (setN g 2 100) 3 10) 5 2) 8 1) 11 10) 6 2))))]] H locs := hw
        refine lv_aload_n hx hb dX6_begin_42 rfl (lv_at hl 1 rfl) ?_
        refine lv_bipush (v := (nI 8)) hx hb dX6_begin_43 (by decide) ?_
        refine lv_iload_n hx hb dX6_begin_45 rfl (lv_at hl 0 rfl) ?_
        refine x_iadd M (n := 9) dX6_begin_46 rfl ?_
        refine lv_iconst (v := (nI 1)) hx hb dX6_begin_47 (by decide) ?_
        refine x_iast M hK hw 0 0 rfl rfl (by decide) (by decide) dX6_begin_48 (fun H locs hw => ?_)
        rw [upd_row] at hw
        have hw : xW G A s.heap [[(a, .inl (Y 0, 140, .inl (rowF (setN (setN (setN (setN (setN (setN (setN g 2 100) 3 10) 5 2) 8 1) 11 10) 6 2) 9 1))))]] H locs := hw
        refine lv_aload_n hx hb dX6_begin_49 rfl (lv_at hl 1 rfl) ?_
        refine lv_bipush (v := (nI 11)) hx hb dX6_begin_50 (by decide) ?_
        refine lv_iload_n hx hb dX6_begin_52 rfl (lv_at hl 0 rfl) ?_
        refine x_iadd M (n := 12) dX6_begin_53 rfl ?_
        refine lv_bipush (v := (nI 10)) hx hb dX6_begin_54 (by decide) ?_
        refine x_iast M hK hw 0 0 rfl rfl (by decide) (by decide) dX6_begin_56 (fun H locs hw => ?_)
        rw [upd_row] at hw
        have hw : xW G A s.heap [[(a, .inl (Y 0, 140, .inl (rowF (setN (setN (setN (setN (setN (setN (setN (setN g 2 100) 3 10) 5 2) 8 1) 11 10) 6 2) 9 1) 12 10))))]] H locs := hw
        refine lv_iinc (v := (nI 2)) (lv' := [(1, .int (nI 2)), (0, .ref a)]) hx hb dX6_begin_57 hl (k := 0) rfl (by decide) (by decide) rfl (fun ls hl => ?_)
        refine lv_goto (tgt := 31) hx hb dX6_begin_60 (by decide) ?_
        refine lv_iload_n hx hb dX6_begin_31 rfl (lv_at hl 0 rfl) ?_
        refine lv_iconst (v := (nI 3)) hx hb dX6_begin_32 (by decide) ?_
        refine x_cge M (tgt := 63) (by decide) (by decide) dX6_begin_33 (by decide) (fun c_4 => absurd c_4 (by decide)) (fun c_4 => ?_)
        refine lv_aload_n hx hb dX6_begin_36 rfl (lv_at hl 1 rfl) ?_
        refine lv_iconst (v := (nI 5)) hx hb dX6_begin_37 (by decide) ?_
        refine lv_iload_n hx hb dX6_begin_38 rfl (lv_at hl 0 rfl) ?_
        refine x_iadd M (n := 7) dX6_begin_39 rfl ?_
        refine lv_iconst (v := (nI 2)) hx hb dX6_begin_40 (by decide) ?_
        refine x_iast M hK hw 0 0 rfl rfl (by decide) (by decide) dX6_begin_41 (fun H locs hw => ?_)
        rw [upd_row] at hw
        have hw : xW G A s.heap [[(a, .inl (Y 0, 140, .inl (rowF (setN (setN (setN (setN (setN (setN (setN (setN (setN g 2 100) 3 10) 5 2) 8 1) 11 10) 6 2) 9 1) 12 10) 7 2))))]] H locs := hw
        refine lv_aload_n hx hb dX6_begin_42 rfl (lv_at hl 1 rfl) ?_
        refine lv_bipush (v := (nI 8)) hx hb dX6_begin_43 (by decide) ?_
        refine lv_iload_n hx hb dX6_begin_45 rfl (lv_at hl 0 rfl) ?_
        refine x_iadd M (n := 10) dX6_begin_46 rfl ?_
        refine lv_iconst (v := (nI 1)) hx hb dX6_begin_47 (by decide) ?_
        refine x_iast M hK hw 0 0 rfl rfl (by decide) (by decide) dX6_begin_48 (fun H locs hw => ?_)
        rw [upd_row] at hw
        have hw : xW G A s.heap [[(a, .inl (Y 0, 140, .inl (rowF (setN (setN (setN (setN (setN (setN (setN (setN (setN (setN g 2 100) 3 10) 5 2) 8 1) 11 10) 6 2) 9 1) 12 10) 7 2) 10 1))))]] H locs := hw
        refine lv_aload_n hx hb dX6_begin_49 rfl (lv_at hl 1 rfl) ?_
        refine lv_bipush (v := (nI 11)) hx hb dX6_begin_50 (by decide) ?_
        refine lv_iload_n hx hb dX6_begin_52 rfl (lv_at hl 0 rfl) ?_
        refine x_iadd M (n := 13) dX6_begin_53 rfl ?_
        refine lv_bipush (v := (nI 10)) hx hb dX6_begin_54 (by decide) ?_
        refine x_iast M hK hw 0 0 rfl rfl (by decide) (by decide) dX6_begin_56 (fun H locs hw => ?_)
        rw [upd_row] at hw
        have hw : xW G A s.heap [[(a, .inl (Y 0, 140, .inl (rowF (setN (setN (setN (setN (setN (setN (setN (setN (setN (setN (setN g 2 100) 3 10) 5 2) 8 1) 11 10) 6 2) 9 1) 12 10) 7 2) 10 1) 13 10))))]] H locs := hw
        refine lv_iinc (v := (nI 3)) (lv' := [(1, .int (nI 3)), (0, .ref a)]) hx hb dX6_begin_57 hl (k := 0) rfl (by decide) (by decide) rfl (fun ls hl => ?_)
        refine lv_goto (tgt := 31) hx hb dX6_begin_60 (by decide) ?_
        refine lv_iload_n hx hb dX6_begin_31 rfl (lv_at hl 0 rfl) ?_
        refine lv_iconst (v := (nI 3)) hx hb dX6_begin_32 (by decide) ?_
        refine x_cge M (tgt := 63) (by decide) (by decide) dX6_begin_33 (by decide) (fun c_5 => ?_) (fun c_5 => absurd c_5 (by decide))
        have hw := row_fold (i := 0) (f' := rowF row0) hw rfl (fun q hq => congrArg nI (by clear hret hw hl M hK hZ hx hb; simp only [setN, row0, hg q (by omega)]))
        have hw : xW G A s.heap [[(a, .inl (Y 0, 140, .inl (rowF row0)))]] H locs := hw
        exact hret _ _ _ _ _ dX6_begin_63 hw rfl rfl
      refine lv_aload_n hx hb dX6_begin_9 rfl (lv_at hl 0 rfl) ?_
      refine lv_iload_n hx hb dX6_begin_10 rfl (lv_at hl 1 rfl) ?_
      refine lv_iconst (v := (nI 0)) hx hb dX6_begin_11 (by decide) ?_
      refine x_iast M hK hw 0 0 rfl rfl (by omega) (by decide) dX6_begin_12 (fun H locs hw => ?_)
      rw [upd_row] at hw
      have hw : xW G A s.heap [[(a, .inl (Y 0, 140, .inl (rowF (setN g i 0))))]] H locs := hw
      refine lv_iinc (v := (nI (1 + i))) (lv' := [(1, .int (nI (1 + i))), (0, .ref a)]) hx hb dX6_begin_13 hl (k := 1) rfl (by rw [show (1 : Int) = ((1 : Nat) : Int) from rfl, nI_inc]; exact congrArg nI (by omega)) (by decide) rfl (fun ls hl => ?_)
      refine lv_goto (tgt := 2) hx hb dX6_begin_16 (by decide) ?_
      exact ih2 (1 + i) (setN g i 0) (by omega) (by omega) (fun q hq => by clear hret hw hl M hK hZ hx hb; rcases Nat.lt_or_ge q i with z | z; rw [setN_n (by omega)]; exact hg q z; rw [show q = i by omega]; exact setN_s) _ _ hw _ (lv_sub hl [1, 0] rfl)
  exact L2 (140 - 0 + 1) 0 f (Nat.lt_succ_self _) (by omega) (fun q hq => absurd hq (Nat.not_lt_zero _)) _ _ hw _ (lv_sub hl [1, 0] rfl)
set_option maxHeartbeats 4000000 in
set_option maxRecDepth 20000 in
theorem k_X6_joinOn (l : Launch) (G : va_G) (Y : Nat → Nat) (a u v : Nat) (ρ : Nat → Nat) (hI : Inv ρ) (hn : ρ 4 < 6) : CtI l yX6_joinOn cX6_joinOn 4 .int 1 20 [.ref a, .int (nI u), .int (nI v)] [[(a, .inl (Y 0, 140, .inl (rowF ρ)))]] (fun r sg => r = nI (ρ 4) ∧ sg = [[(a, .inl (Y 0, 140, .inl (rowF (mJoin ρ u v))))]]) G Y := by
  refine x_ofI (by decide) (Nat.le_of_ble_eq_true rfl) (fun p e s m args below meth c A ls Q M hK hZ hw hl hret => ?_)
  obtain ⟨hx, hb, -⟩ := id M
  have hl : lv_has ls 4 [(0, .ref a), (1, .int (nI u)), (2, .int (nI v))] := hl
  have := hI.n6
  have := hI.over
  have := hI.keep
  have := hI.stepp
  refine lv_aload_n hx hb dX6_joinOn_0 rfl (lv_at hl 0 rfl) ?_
  refine lv_iconst (v := (nI 4)) hx hb dX6_joinOn_1 (by decide) ?_
  refine x_iald M hK hw 0 0 rfl rfl (by decide) (by decide) dX6_joinOn_2 ?_
  refine x_topN (n := ρ 4) rfl ?_
  have q_1 : ρ 4 ≤ 6 := hI.n6
  refine lv_istore_n (lv' := [(3, .int (nI (ρ 4))), (0, .ref a), (1, .int (nI u)), (2, .int (nI v))]) hx hb dX6_joinOn_3 rfl hl (by decide) rfl (fun ls hl => ?_)
  refine lv_aload_n hx hb dX6_joinOn_4 rfl (lv_at hl 1 rfl) ?_
  refine lv_iload_n hx hb dX6_joinOn_5 rfl (lv_at hl 0 rfl) ?_
  refine x_cSI (As := [.int (nI (ρ 4))]) (k_X6_at l G Y (ρ 4)) cw_X6_49 [] M hK hZ hw hl.1 rfl (by decide) ⟨by decide, by decide⟩ ⟨Nat.zero_le _, Nat.zero_le _⟩ rfl rfl (Nat.le_of_ble_eq_true rfl) dX6_joinOn_6 (fun r sg h_2 H locs hw => ?_)
  obtain ⟨rfl, rfl⟩ := h_2
  have hw : xW G A s.heap [[(a, .inl (Y 0, 140, .inl (rowF ρ)))]] H locs := hw
  refine lv_iconst (v := (nI 0)) hx hb dX6_joinOn_9 (by decide) ?_
  refine x_iadd M (n := 14 + 21 * (ρ 4)) dX6_joinOn_10 (by omega) ?_
  refine lv_iload_n hx hb dX6_joinOn_11 rfl (lv_at hl 2 rfl) ?_
  refine x_iast M hK hw 0 0 rfl rfl (by omega) (by decide) dX6_joinOn_12 (fun H locs hw => ?_)
  rw [upd_row] at hw
  have hw : xW G A s.heap [[(a, .inl (Y 0, 140, .inl (rowF (setN ρ (14 + 21 * (ρ 4)) u))))]] H locs := hw
  refine lv_aload_n hx hb dX6_joinOn_13 rfl (lv_at hl 1 rfl) ?_
  refine lv_iload_n hx hb dX6_joinOn_14 rfl (lv_at hl 0 rfl) ?_
  refine x_cSI (As := [.int (nI (ρ 4))]) (k_X6_at l G Y (ρ 4)) cw_X6_49 [] M hK hZ hw hl.1 rfl (by decide) ⟨by decide, by decide⟩ ⟨Nat.zero_le _, Nat.zero_le _⟩ rfl rfl (Nat.le_of_ble_eq_true rfl) dX6_joinOn_15 (fun r sg h_3 H locs hw => ?_)
  obtain ⟨rfl, rfl⟩ := h_3
  have hw : xW G A s.heap [[(a, .inl (Y 0, 140, .inl (rowF (setN ρ (14 + 21 * (ρ 4)) u))))]] H locs := hw
  refine lv_iconst (v := (nI 1)) hx hb dX6_joinOn_18 (by decide) ?_
  refine x_iadd M (n := 15 + 21 * (ρ 4)) dX6_joinOn_19 (by omega) ?_
  refine lv_iload_n hx hb dX6_joinOn_20 rfl (lv_at hl 3 rfl) ?_
  refine x_iast M hK hw 0 0 rfl rfl (by omega) (by decide) dX6_joinOn_21 (fun H locs hw => ?_)
  rw [upd_row] at hw
  have hw : xW G A s.heap [[(a, .inl (Y 0, 140, .inl (rowF (setN (setN ρ (14 + 21 * (ρ 4)) u) (15 + 21 * (ρ 4)) v))))]] H locs := hw
  refine lv_aload_n hx hb dX6_joinOn_22 rfl (lv_at hl 1 rfl) ?_
  refine lv_iconst (v := (nI 4)) hx hb dX6_joinOn_23 (by decide) ?_
  refine lv_dup2_11 hx hb dX6_joinOn_24 rfl rfl ?_
  refine x_iald M hK hw 0 0 rfl rfl (by decide) (by decide) dX6_joinOn_25 ?_
  refine x_topN (n := ρ 4) (congrArg nI ((setN_n (by omega)).trans ((setN_n (by omega)).trans rfl))) ?_
  refine lv_iconst (v := (nI 1)) hx hb dX6_joinOn_26 (by decide) ?_
  refine x_iadd M (n := 1 + ρ 4) dX6_joinOn_27 (by omega) ?_
  refine x_iast M hK hw 0 0 rfl rfl (by decide) (by decide) dX6_joinOn_28 (fun H locs hw => ?_)
  rw [upd_row] at hw
  have hw : xW G A s.heap [[(a, .inl (Y 0, 140, .inl (rowF (setN (setN (setN ρ (14 + 21 * (ρ 4)) u) (15 + 21 * (ρ 4)) v) 4 (1 + ρ 4)))))]] H locs := hw
  refine lv_iload_n hx hb dX6_joinOn_29 rfl (lv_at hl 0 rfl) ?_
  have hw := row_fold (i := 0) (f' := rowF (mJoin ρ u v)) hw rfl (fun q hq => congrArg nI (by clear hret hw hl M hK hZ hx hb; simp only [mJoin, setN, if_true, if_false, reduceIte] <;> (repeat' split) <;> first | rfl | (exfalso; omega) | omega))
  have hw : xW G A s.heap [[(a, .inl (Y 0, 140, .inl (rowF (mJoin ρ u v))))]] H locs := hw
  exact hret _ _ _ (nI (ρ 4)) _ _ dX6_joinOn_30 hw rfl rfl ⟨rfl, rfl⟩
set_option maxHeartbeats 4000000 in
set_option maxRecDepth 20000 in
theorem k_X6_valueOn (l : Launch) (G : va_G) (Y : Nat → Nat) (a j k v : Nat) (ρ : Nat → Nat) (hI : Inv ρ) (hj : j < ρ 4) (hk : k < 3) : CtI l yX6_valueOn cX6_valueOn 5 .int 1 20 [.ref a, .int (nI j), .int (nI k), .int (nI v)] [[(a, .inl (Y 0, 140, .inl (rowF ρ)))]] (fun r sg => r = nI (ρ (16 + 21 * j + k)) ∧ sg = [[(a, .inl (Y 0, 140, .inl (rowF (mVal ρ j k v))))]]) G Y := by
  refine x_ofI (by decide) (Nat.le_of_ble_eq_true rfl) (fun p e s m args below meth c A ls Q M hK hZ hw hl hret => ?_)
  obtain ⟨hx, hb, -⟩ := id M
  have hl : lv_has ls 5 [(0, .ref a), (1, .int (nI j)), (2, .int (nI k)), (3, .int (nI v))] := hl
  have := hI.n6
  have := hI.over
  have := hI.keep
  have := hI.stepp
  refine lv_aload_n hx hb dX6_valueOn_0 rfl (lv_at hl 0 rfl) ?_
  refine lv_iload_n hx hb dX6_valueOn_1 rfl (lv_at hl 1 rfl) ?_
  refine x_cSI (As := [.int (nI j)]) (k_X6_at l G Y j) cw_X6_49 [] M hK hZ hw hl.1 rfl (by decide) ⟨by decide, by decide⟩ ⟨Nat.zero_le _, Nat.zero_le _⟩ rfl rfl (Nat.le_of_ble_eq_true rfl) dX6_valueOn_2 (fun r sg h_1 H locs hw => ?_)
  obtain ⟨rfl, rfl⟩ := h_1
  have hw : xW G A s.heap [[(a, .inl (Y 0, 140, .inl (rowF ρ)))]] H locs := hw
  refine lv_iconst (v := (nI 2)) hx hb dX6_valueOn_5 (by decide) ?_
  refine x_iadd M (n := 16 + 21 * j) dX6_valueOn_6 (by omega) ?_
  refine lv_iload_n hx hb dX6_valueOn_7 rfl (lv_at hl 2 rfl) ?_
  refine x_iadd M (n := 16 + 21 * j + k) dX6_valueOn_8 rfl ?_
  refine x_iald M hK hw 0 0 rfl rfl (by omega) (by decide) dX6_valueOn_9 ?_
  refine x_topN (n := ρ (16 + 21 * j + k)) rfl ?_
  have q_2 : ρ (16 + 21 * j + k) ≤ 99999 := hI.val (j := j) (by omega) (k := k) (by omega) (by omega)
  refine lv_istore (lv' := [(4, .int (nI (ρ (16 + 21 * j + k)))), (0, .ref a), (1, .int (nI j)), (2, .int (nI k)), (3, .int (nI v))]) hx hb dX6_valueOn_10 hl (by decide) rfl (fun ls hl => ?_)
  refine lv_aload_n hx hb dX6_valueOn_12 rfl (lv_at hl 1 rfl) ?_
  refine lv_iload_n hx hb dX6_valueOn_13 rfl (lv_at hl 2 rfl) ?_
  refine x_cSI (As := [.int (nI j)]) (k_X6_at l G Y j) cw_X6_49 [] M hK hZ hw hl.1 rfl (by decide) ⟨by decide, by decide⟩ ⟨Nat.zero_le _, Nat.zero_le _⟩ rfl rfl (Nat.le_of_ble_eq_true rfl) dX6_valueOn_14 (fun r sg h_3 H locs hw => ?_)
  obtain ⟨rfl, rfl⟩ := h_3
  have hw : xW G A s.heap [[(a, .inl (Y 0, 140, .inl (rowF ρ)))]] H locs := hw
  refine lv_iconst (v := (nI 2)) hx hb dX6_valueOn_17 (by decide) ?_
  refine x_iadd M (n := 16 + 21 * j) dX6_valueOn_18 (by omega) ?_
  refine lv_iload_n hx hb dX6_valueOn_19 rfl (lv_at hl 3 rfl) ?_
  refine x_iadd M (n := 16 + 21 * j + k) dX6_valueOn_20 rfl ?_
  refine lv_iload_n hx hb dX6_valueOn_21 rfl (lv_at hl 4 rfl) ?_
  refine x_iast M hK hw 0 0 rfl rfl (by omega) (by decide) dX6_valueOn_22 (fun H locs hw => ?_)
  rw [upd_row] at hw
  have hw : xW G A s.heap [[(a, .inl (Y 0, 140, .inl (rowF (setN ρ (16 + 21 * j + k) v))))]] H locs := hw
  refine lv_iload hx hb dX6_valueOn_23 (lv_at hl 0 rfl) ?_
  have hw := row_fold (i := 0) (f' := rowF (mVal ρ j k v)) hw rfl (fun q hq => congrArg nI (by clear hret hw hl M hK hZ hx hb; simp only [mVal, setN, if_true, if_false, reduceIte] <;> (repeat' split) <;> first | rfl | (exfalso; omega) | omega))
  have hw : xW G A s.heap [[(a, .inl (Y 0, 140, .inl (rowF (mVal ρ j k v))))]] H locs := hw
  exact hret _ _ _ (nI (ρ (16 + 21 * j + k))) _ _ dX6_valueOn_25 hw rfl rfl ⟨rfl, rfl⟩
set_option maxHeartbeats 4000000 in
set_option maxRecDepth 20000 in
theorem k_X6_askOn (l : Launch) (G : va_G) (Y : Nat → Nat) (a j k n1 : Nat) (ρ : Nat → Nat) (hI : Inv ρ) (hj : j < ρ 4) (hk : k < 3) (hn1 : n1 ≤ 9) : CtI l yX6_askOn cX6_askOn 4 .int 2 43 [.ref a, .int (nI j), .int (nI k), .int (nI n1)] [[(a, .inl (Y 0, 140, .inl (rowF ρ)))]] (fun r sg => r = nI (act (mAsk ρ j k n1) j) ∧ sg = [[(a, .inl (Y 0, 140, .inl (rowF (mAsk ρ j k n1))))]]) G Y := by
  refine x_ofI (by decide) (Nat.le_of_ble_eq_true rfl) (fun p e s m args below meth c A ls Q M hK hZ hw hl hret => ?_)
  obtain ⟨hx, hb, -⟩ := id M
  have hl : lv_has ls 4 [(0, .ref a), (1, .int (nI j)), (2, .int (nI k)), (3, .int (nI n1))] := hl
  have := hI.n6
  have := hI.over
  have := hI.keep
  have := hI.stepp
  refine lv_aload_n hx hb dX6_askOn_0 rfl (lv_at hl 0 rfl) ?_
  refine lv_iload_n hx hb dX6_askOn_1 rfl (lv_at hl 1 rfl) ?_
  refine x_cSI (As := [.int (nI j)]) (k_X6_at l G Y j) cw_X6_49 [] M hK hZ hw hl.1 rfl (by decide) ⟨by decide, by decide⟩ ⟨Nat.zero_le _, Nat.zero_le _⟩ rfl rfl (Nat.le_of_ble_eq_true rfl) dX6_askOn_2 (fun r sg h_1 H locs hw => ?_)
  obtain ⟨rfl, rfl⟩ := h_1
  have hw : xW G A s.heap [[(a, .inl (Y 0, 140, .inl (rowF ρ)))]] H locs := hw
  refine lv_iconst (v := (nI 5)) hx hb dX6_askOn_5 (by decide) ?_
  refine x_iadd M (n := 19 + 21 * j) dX6_askOn_6 (by omega) ?_
  refine lv_iload_n hx hb dX6_askOn_7 rfl (lv_at hl 2 rfl) ?_
  refine x_iadd M (n := 19 + 21 * j + k) dX6_askOn_8 rfl ?_
  refine lv_iload_n hx hb dX6_askOn_9 rfl (lv_at hl 3 rfl) ?_
  refine x_iast M hK hw 0 0 rfl rfl (by omega) (by decide) dX6_askOn_10 (fun H locs hw => ?_)
  rw [upd_row] at hw
  have hw : xW G A s.heap [[(a, .inl (Y 0, 140, .inl (rowF (setN ρ (19 + 21 * j + k) n1))))]] H locs := hw
  have hw := row_fold (i := 0) (f' := rowF (mAsk ρ j k n1)) hw rfl (fun q hq => congrArg nI (by clear hret hw hl M hK hZ hx hb; simp only [mAsk, setN, if_true, if_false, reduceIte] <;> (repeat' split) <;> first | rfl | (exfalso; omega) | omega))
  have hw : xW G A s.heap [[(a, .inl (Y 0, 140, .inl (rowF (mAsk ρ j k n1))))]] H locs := hw
  have hI2 := Inv_ask (n := n1) hI hj hk hn1
  have e4 : mAsk ρ j k n1 4 = ρ 4 := setN_n (by omega)
  refine lv_aload_n hx hb dX6_askOn_11 rfl (lv_at hl 0 rfl) ?_
  refine lv_iload_n hx hb dX6_askOn_12 rfl (lv_at hl 1 rfl) ?_
  refine x_cSI (As := [.ref a, .int (nI j)]) (k_X6_activity l G Y a j (mAsk ρ j k n1) (hI2) (by omega)) cw_X6_67 [0] M hK hZ hw hl.1 rfl (by decide) ⟨by decide, by decide⟩ ⟨Nat.zero_le _, Nat.zero_le _⟩ rfl rfl (Nat.le_of_ble_eq_true rfl) dX6_askOn_13 (fun r sg h_2 H locs hw => ?_)
  obtain ⟨rfl, rfl⟩ := h_2
  have hw : xW G A s.heap [[(a, .inl (Y 0, 140, .inl (rowF (mAsk ρ j k n1))))]] H locs := hw
  have q_3 : act (mAsk ρ j k n1) j ≤ 243 := act_le hI2 (by omega)
  exact hret _ _ _ (nI (act (mAsk ρ j k n1) j)) _ _ dX6_askOn_16 hw rfl rfl ⟨rfl, rfl⟩
set_option maxHeartbeats 4000000 in
set_option maxRecDepth 20000 in
theorem k_X6_addOn (l : Launch) (G : va_G) (Y : Nat → Nat) (a j x y z v : Nat) (ρ : Nat → Nat) (hI : Inv ρ) (hj : j < ρ 4) (hp : ρ (22 + 21 * j) < 3) : CtI l yX6_addOn cX6_addOn 7 .int 1 20 [.ref a, .int (nI j), .int (nI x), .int (nI y), .int (nI z), .int (nI v)] [[(a, .inl (Y 0, 140, .inl (rowF ρ)))]] (fun r sg => r = nI (ρ (22 + 21 * j) + 1) ∧ sg = [[(a, .inl (Y 0, 140, .inl (rowF (mAdd ρ j x y z v))))]]) G Y := by
  refine x_ofI (by decide) (Nat.le_of_ble_eq_true rfl) (fun p e s m args below meth c A ls Q M hK hZ hw hl hret => ?_)
  obtain ⟨hx, hb, -⟩ := id M
  have hl : lv_has ls 7 [(0, .ref a), (1, .int (nI j)), (2, .int (nI x)), (3, .int (nI y)), (4, .int (nI z)), (5, .int (nI v))] := hl
  have := hI.n6
  have := hI.over
  have := hI.keep
  have := hI.stepp
  refine lv_iload_n hx hb dX6_addOn_0 rfl (lv_at hl 1 rfl) ?_
  refine x_cSI (As := [.int (nI j)]) (k_X6_at l G Y j) cw_X6_49 [] M hK hZ hw hl.1 rfl (by decide) ⟨by decide, by decide⟩ ⟨Nat.zero_le _, Nat.zero_le _⟩ rfl rfl (Nat.le_of_ble_eq_true rfl) dX6_addOn_1 (fun r sg h_1 H locs hw => ?_)
  obtain ⟨rfl, rfl⟩ := h_1
  have hw : xW G A s.heap [[(a, .inl (Y 0, 140, .inl (rowF ρ)))]] H locs := hw
  refine lv_bipush (v := (nI 9)) hx hb dX6_addOn_4 (by decide) ?_
  refine x_iadd M (n := 23 + 21 * j) dX6_addOn_6 (by omega) ?_
  refine lv_iconst (v := (nI 4)) hx hb dX6_addOn_7 (by decide) ?_
  refine lv_aload_n hx hb dX6_addOn_8 rfl (lv_at hl 0 rfl) ?_
  refine lv_iload_n hx hb dX6_addOn_9 rfl (lv_at hl 1 rfl) ?_
  refine x_cSI (As := [.int (nI j)]) (k_X6_at l G Y j) cw_X6_49 [] M hK hZ hw hl.1 rfl (by decide) ⟨by decide, by decide⟩ ⟨Nat.zero_le _, Nat.zero_le _⟩ rfl rfl (Nat.le_of_ble_eq_true rfl) dX6_addOn_10 (fun r sg h_2 H locs hw => ?_)
  obtain ⟨rfl, rfl⟩ := h_2
  have hw : xW G A s.heap [[(a, .inl (Y 0, 140, .inl (rowF ρ)))]] H locs := hw
  refine lv_bipush (v := (nI 8)) hx hb dX6_addOn_13 (by decide) ?_
  refine x_iadd M (n := 22 + 21 * j) dX6_addOn_15 (by omega) ?_
  refine x_iald M hK hw 0 0 rfl rfl (by omega) (by decide) dX6_addOn_16 ?_
  refine x_topN (n := ρ (22 + 21 * j)) rfl ?_
  have q_3 : ρ (22 + 21 * j) ≤ 3 := hI.pck (j := j) (by omega) (by omega)
  refine x_imul M (n := 4 * (ρ (22 + 21 * j))) dX6_addOn_17 (by omega) ?_
  refine x_iadd M (n := 23 + 21 * j + 4 * (ρ (22 + 21 * j))) dX6_addOn_18 rfl ?_
  refine lv_istore (lv' := [(6, .int (nI (23 + 21 * j + 4 * (ρ (22 + 21 * j))))), (0, .ref a), (1, .int (nI j)), (2, .int (nI x)), (3, .int (nI y)), (4, .int (nI z)), (5, .int (nI v))]) hx hb dX6_addOn_19 hl (by decide) rfl (fun ls hl => ?_)
  refine lv_aload_n hx hb dX6_addOn_21 rfl (lv_at hl 1 rfl) ?_
  refine lv_iload hx hb dX6_addOn_22 (lv_at hl 0 rfl) ?_
  refine lv_iload_n hx hb dX6_addOn_24 rfl (lv_at hl 3 rfl) ?_
  refine x_iast M hK hw 0 0 rfl rfl (by omega) (by decide) dX6_addOn_25 (fun H locs hw => ?_)
  rw [upd_row] at hw
  have hw : xW G A s.heap [[(a, .inl (Y 0, 140, .inl (rowF (setN ρ (23 + 21 * j + 4 * (ρ (22 + 21 * j))) x))))]] H locs := hw
  refine lv_aload_n hx hb dX6_addOn_26 rfl (lv_at hl 1 rfl) ?_
  refine lv_iload hx hb dX6_addOn_27 (lv_at hl 0 rfl) ?_
  refine lv_iconst (v := (nI 1)) hx hb dX6_addOn_29 (by decide) ?_
  refine x_iadd M (n := 24 + 21 * j + 4 * (ρ (22 + 21 * j))) dX6_addOn_30 (by omega) ?_
  refine lv_iload_n hx hb dX6_addOn_31 rfl (lv_at hl 4 rfl) ?_
  refine x_iast M hK hw 0 0 rfl rfl (by omega) (by decide) dX6_addOn_32 (fun H locs hw => ?_)
  rw [upd_row] at hw
  have hw : xW G A s.heap [[(a, .inl (Y 0, 140, .inl (rowF (setN (setN ρ (23 + 21 * j + 4 * (ρ (22 + 21 * j))) x) (24 + 21 * j + 4 * (ρ (22 + 21 * j))) y))))]] H locs := hw
  refine lv_aload_n hx hb dX6_addOn_33 rfl (lv_at hl 1 rfl) ?_
  refine lv_iload hx hb dX6_addOn_34 (lv_at hl 0 rfl) ?_
  refine lv_iconst (v := (nI 2)) hx hb dX6_addOn_36 (by decide) ?_
  refine x_iadd M (n := 25 + 21 * j + 4 * (ρ (22 + 21 * j))) dX6_addOn_37 (by omega) ?_
  refine lv_iload hx hb dX6_addOn_38 (lv_at hl 5 rfl) ?_
  refine x_iast M hK hw 0 0 rfl rfl (by omega) (by decide) dX6_addOn_40 (fun H locs hw => ?_)
  rw [upd_row] at hw
  have hw : xW G A s.heap [[(a, .inl (Y 0, 140, .inl (rowF (setN (setN (setN ρ (23 + 21 * j + 4 * (ρ (22 + 21 * j))) x) (24 + 21 * j + 4 * (ρ (22 + 21 * j))) y) (25 + 21 * j + 4 * (ρ (22 + 21 * j))) z))))]] H locs := hw
  refine lv_aload_n hx hb dX6_addOn_41 rfl (lv_at hl 1 rfl) ?_
  refine lv_iload hx hb dX6_addOn_42 (lv_at hl 0 rfl) ?_
  refine lv_iconst (v := (nI 3)) hx hb dX6_addOn_44 (by decide) ?_
  refine x_iadd M (n := 26 + 21 * j + 4 * (ρ (22 + 21 * j))) dX6_addOn_45 (by omega) ?_
  refine lv_iload hx hb dX6_addOn_46 (lv_at hl 6 rfl) ?_
  refine x_iast M hK hw 0 0 rfl rfl (by omega) (by decide) dX6_addOn_48 (fun H locs hw => ?_)
  rw [upd_row] at hw
  have hw : xW G A s.heap [[(a, .inl (Y 0, 140, .inl (rowF (setN (setN (setN (setN ρ (23 + 21 * j + 4 * (ρ (22 + 21 * j))) x) (24 + 21 * j + 4 * (ρ (22 + 21 * j))) y) (25 + 21 * j + 4 * (ρ (22 + 21 * j))) z) (26 + 21 * j + 4 * (ρ (22 + 21 * j))) v))))]] H locs := hw
  refine lv_aload_n hx hb dX6_addOn_49 rfl (lv_at hl 1 rfl) ?_
  refine lv_iload_n hx hb dX6_addOn_50 rfl (lv_at hl 2 rfl) ?_
  refine x_cSI (As := [.int (nI j)]) (k_X6_at l G Y j) cw_X6_49 [] M hK hZ hw hl.1 rfl (by decide) ⟨by decide, by decide⟩ ⟨Nat.zero_le _, Nat.zero_le _⟩ rfl rfl (Nat.le_of_ble_eq_true rfl) dX6_addOn_51 (fun r sg h_4 H locs hw => ?_)
  obtain ⟨rfl, rfl⟩ := h_4
  have hw : xW G A s.heap [[(a, .inl (Y 0, 140, .inl (rowF (setN (setN (setN (setN ρ (23 + 21 * j + 4 * (ρ (22 + 21 * j))) x) (24 + 21 * j + 4 * (ρ (22 + 21 * j))) y) (25 + 21 * j + 4 * (ρ (22 + 21 * j))) z) (26 + 21 * j + 4 * (ρ (22 + 21 * j))) v))))]] H locs := hw
  refine lv_bipush (v := (nI 8)) hx hb dX6_addOn_54 (by decide) ?_
  refine x_iadd M (n := 22 + 21 * j) dX6_addOn_56 (by omega) ?_
  refine lv_dup2_11 hx hb dX6_addOn_57 rfl rfl ?_
  refine x_iald M hK hw 0 0 rfl rfl (by omega) (by decide) dX6_addOn_58 ?_
  refine x_topN (n := ρ (22 + 21 * j)) (congrArg nI ((setN_n (by omega)).trans ((setN_n (by omega)).trans ((setN_n (by omega)).trans ((setN_n (by omega)).trans rfl))))) ?_
  refine lv_iconst (v := (nI 1)) hx hb dX6_addOn_59 (by decide) ?_
  refine x_iadd M (n := 1 + ρ (22 + 21 * j)) dX6_addOn_60 (by omega) ?_
  refine x_iast M hK hw 0 0 rfl rfl (by omega) (by decide) dX6_addOn_61 (fun H locs hw => ?_)
  rw [upd_row] at hw
  have hw : xW G A s.heap [[(a, .inl (Y 0, 140, .inl (rowF (setN (setN (setN (setN (setN ρ (23 + 21 * j + 4 * (ρ (22 + 21 * j))) x) (24 + 21 * j + 4 * (ρ (22 + 21 * j))) y) (25 + 21 * j + 4 * (ρ (22 + 21 * j))) z) (26 + 21 * j + 4 * (ρ (22 + 21 * j))) v) (22 + 21 * j) (1 + ρ (22 + 21 * j))))))]] H locs := hw
  refine lv_aload_n hx hb dX6_addOn_62 rfl (lv_at hl 1 rfl) ?_
  refine lv_iload_n hx hb dX6_addOn_63 rfl (lv_at hl 2 rfl) ?_
  refine x_cSI (As := [.int (nI j)]) (k_X6_at l G Y j) cw_X6_49 [] M hK hZ hw hl.1 rfl (by decide) ⟨by decide, by decide⟩ ⟨Nat.zero_le _, Nat.zero_le _⟩ rfl rfl (Nat.le_of_ble_eq_true rfl) dX6_addOn_64 (fun r sg h_5 H locs hw => ?_)
  obtain ⟨rfl, rfl⟩ := h_5
  have hw : xW G A s.heap [[(a, .inl (Y 0, 140, .inl (rowF (setN (setN (setN (setN (setN ρ (23 + 21 * j + 4 * (ρ (22 + 21 * j))) x) (24 + 21 * j + 4 * (ρ (22 + 21 * j))) y) (25 + 21 * j + 4 * (ρ (22 + 21 * j))) z) (26 + 21 * j + 4 * (ρ (22 + 21 * j))) v) (22 + 21 * j) (1 + ρ (22 + 21 * j))))))]] H locs := hw
  refine lv_bipush (v := (nI 8)) hx hb dX6_addOn_67 (by decide) ?_
  refine x_iadd M (n := 22 + 21 * j) dX6_addOn_69 (by omega) ?_
  refine x_iald M hK hw 0 0 rfl rfl (by omega) (by decide) dX6_addOn_70 ?_
  refine x_topN (n := 1 + ρ (22 + 21 * j)) (congrArg nI setN_s) ?_
  have hw := row_fold (i := 0) (f' := rowF (mAdd ρ j x y z v)) hw rfl (fun q hq => congrArg nI (by clear hret hw hl M hK hZ hx hb; simp only [mAdd, setN, if_true, if_false, reduceIte] <;> (repeat' split) <;> first | rfl | (exfalso; omega) | omega))
  have hw : xW G A s.heap [[(a, .inl (Y 0, 140, .inl (rowF (mAdd ρ j x y z v))))]] H locs := hw
  exact hret _ _ _ (nI (1 + ρ (22 + 21 * j))) _ _ dX6_addOn_71 hw rfl rfl ⟨congrArg nI (by omega), rfl⟩
set_option maxHeartbeats 4000000 in
set_option maxRecDepth 20000 in
theorem k_X6_dropOn (l : Launch) (G : va_G) (Y : Nat → Nat) (a j i : Nat) (ρ : Nat → Nat) (hI : Inv ρ) (hj : j < ρ 4) (hi : 1 ≤ i) (hp : i ≤ ρ (22 + 21 * j)) : CtI l yX6_dropOn cX6_dropOn 5 .int 1 20 [.ref a, .int (nI j), .int (nI i)] [[(a, .inl (Y 0, 140, .inl (rowF ρ)))]] (fun r sg => r = nI (ρ (22 + 21 * j) - 1) ∧ sg = [[(a, .inl (Y 0, 140, .inl (rowF (mDrop ρ j i))))]]) G Y := by
  refine x_ofI (by decide) (Nat.le_of_ble_eq_true rfl) (fun p e s m args below meth c A ls Q M hK hZ hw hl hret => ?_)
  obtain ⟨hx, hb, -⟩ := id M
  have hl : lv_has ls 5 [(0, .ref a), (1, .int (nI j)), (2, .int (nI i))] := hl
  have hp3 := hI.pck (j := j) hj rfl
  have := hI.n6
  have := hI.over
  have := hI.keep
  have := hI.stepp
  refine lv_iload_n hx hb dX6_dropOn_0 rfl (lv_at hl 1 rfl) ?_
  refine x_cSI (As := [.int (nI j)]) (k_X6_at l G Y j) cw_X6_49 [] M hK hZ hw hl.1 rfl (by decide) ⟨by decide, by decide⟩ ⟨Nat.zero_le _, Nat.zero_le _⟩ rfl rfl (Nat.le_of_ble_eq_true rfl) dX6_dropOn_1 (fun r sg h_1 H locs hw => ?_)
  obtain ⟨rfl, rfl⟩ := h_1
  have hw : xW G A s.heap [[(a, .inl (Y 0, 140, .inl (rowF ρ)))]] H locs := hw
  refine lv_bipush (v := (nI 9)) hx hb dX6_dropOn_4 (by decide) ?_
  refine x_iadd M (n := 23 + 21 * j) dX6_dropOn_6 (by omega) ?_
  refine lv_istore_n (lv' := [(3, .int (nI (23 + 21 * j))), (0, .ref a), (1, .int (nI j)), (2, .int (nI i))]) hx hb dX6_dropOn_7 rfl hl (by decide) rfl (fun ls hl => ?_)
  refine lv_iload_n hx hb dX6_dropOn_8 rfl (lv_at hl 0 rfl) ?_
  refine lv_iconst (v := (nI 4)) hx hb dX6_dropOn_9 (by decide) ?_
  refine lv_iload_n hx hb dX6_dropOn_10 rfl (lv_at hl 3 rfl) ?_
  refine lv_iconst (v := (nI 1)) hx hb dX6_dropOn_11 (by decide) ?_
  refine x_isub M (n := (i - 1)) dX6_dropOn_12 (by omega) ?_
  refine x_imul M (n := 4 * (i - 1)) dX6_dropOn_13 (by omega) ?_
  refine x_iadd M (n := 23 + 21 * j + 4 * (i - 1)) dX6_dropOn_14 rfl ?_
  refine lv_istore (lv' := [(4, .int (nI (23 + 21 * j + 4 * (i - 1)))), (3, .int (nI (23 + 21 * j))), (0, .ref a), (1, .int (nI j)), (2, .int (nI i))]) hx hb dX6_dropOn_15 hl (by decide) rfl (fun ls hl => ?_)
  have L17 : ∀ (fu : Nat) (q1 : Nat) (g : Nat → Nat), (31 + 21 * j - q1 < fu) → (23 + 21 * j + 4 * (i - 1) ≤ q1) → (q1 ≤ 31 + 21 * j) → (g = shf ρ (23 + 21 * j + 4 * (i - 1)) q1 4) → ∀ (H : Heap) (locs : List Loc), xW G A s.heap [[(a, .inl (Y 0, 140, .inl (rowF g)))]] H locs → ∀ (ls : Array Slot), lv_has ls 5 [(0, .ref a), (1, .int (nI j)), (2, .int (nI i)), (3, .int (nI (23 + 21 * j))), (4, .int (nI q1))] → W p l e (xRm 1 20) s m args below meth c H locs 0 0 Q (F0 m 17 ls []) := by
    intro fu
    induction fu with
    | zero => intro q1 g hm; exact absurd hm (Nat.not_lt_zero _)
    | succ fu ih17 =>
      intro q1 g hm hq1 hq2 hg H locs hw ls hl
      refine lv_iload hx hb dX6_dropOn_17 (lv_at hl 4 rfl) ?_
      refine lv_iload_n hx hb dX6_dropOn_19 rfl (lv_at hl 3 rfl) ?_
      refine lv_bipush (v := (nI 8)) hx hb dX6_dropOn_20 (by decide) ?_
      refine x_iadd M (n := 31 + 21 * j) dX6_dropOn_22 (by omega) ?_
      refine x_cge M (tgt := 42) (by omega) (by omega) dX6_dropOn_23 (by decide) (fun c_2 => ?_) (fun c_2 => ?_)
      · refine lv_iload_n hx hb dX6_dropOn_42 rfl (lv_at hl 3 rfl) ?_
        refine lv_bipush (v := (nI 8)) hx hb dX6_dropOn_43 (by decide) ?_
        refine x_iadd M (n := 31 + 21 * j) dX6_dropOn_45 (by omega) ?_
        refine lv_istore (lv' := [(4, .int (nI (31 + 21 * j))), (0, .ref a), (1, .int (nI j)), (2, .int (nI i)), (3, .int (nI (23 + 21 * j)))]) hx hb dX6_dropOn_46 hl (by decide) rfl (fun ls hl => ?_)
        have L48 : ∀ (fu : Nat) (q1 : Nat) (g : Nat → Nat), (35 + 21 * j - q1 < fu) → (31 + 21 * j ≤ q1) → (q1 ≤ 35 + 21 * j) → (∀ q, g q = if 31 + 21 * j ≤ q ∧ q < q1 then 0 else shf ρ (23 + 21 * j + 4 * (i - 1)) (31 + 21 * j) 4 q) → ∀ (H : Heap) (locs : List Loc), xW G A s.heap [[(a, .inl (Y 0, 140, .inl (rowF g)))]] H locs → ∀ (ls : Array Slot), lv_has ls 5 [(0, .ref a), (1, .int (nI j)), (2, .int (nI i)), (3, .int (nI (23 + 21 * j))), (4, .int (nI q1))] → W p l e (xRm 1 20) s m args below meth c H locs 0 0 Q (F0 m 48 ls []) := by
          intro fu
          induction fu with
          | zero => intro q1 g hm; exact absurd hm (Nat.not_lt_zero _)
          | succ fu ih48 =>
            intro q1 g hm hq1 hq2 hg H locs hw ls hl
            refine lv_iload hx hb dX6_dropOn_48 (lv_at hl 4 rfl) ?_
            refine lv_iload_n hx hb dX6_dropOn_50 rfl (lv_at hl 3 rfl) ?_
            refine lv_bipush (v := (nI 12)) hx hb dX6_dropOn_51 (by decide) ?_
            refine x_iadd M (n := 35 + 21 * j) dX6_dropOn_53 (by omega) ?_
            refine x_cge M (tgt := 68) (by omega) (by omega) dX6_dropOn_54 (by decide) (fun c_3 => ?_) (fun c_3 => ?_)
            · refine lv_aload_n hx hb dX6_dropOn_68 rfl (lv_at hl 0 rfl) ?_
              refine lv_iload_n hx hb dX6_dropOn_69 rfl (lv_at hl 1 rfl) ?_
              refine x_cSI (As := [.int (nI j)]) (k_X6_at l G Y j) cw_X6_49 [] M hK hZ hw hl.1 rfl (by decide) ⟨by decide, by decide⟩ ⟨Nat.zero_le _, Nat.zero_le _⟩ rfl rfl (Nat.le_of_ble_eq_true rfl) dX6_dropOn_70 (fun r sg h_4 H locs hw => ?_)
              obtain ⟨rfl, rfl⟩ := h_4
              have hw : xW G A s.heap [[(a, .inl (Y 0, 140, .inl (rowF g)))]] H locs := hw
              refine lv_bipush (v := (nI 8)) hx hb dX6_dropOn_73 (by decide) ?_
              refine x_iadd M (n := 22 + 21 * j) dX6_dropOn_75 (by omega) ?_
              refine lv_dup2_11 hx hb dX6_dropOn_76 rfl rfl ?_
              refine x_iald M hK hw 0 0 rfl rfl (by omega) (by decide) dX6_dropOn_77 ?_
              refine x_topN (n := ρ (22 + 21 * j)) (congrArg nI (by rw [hg, if_neg (by omega), shf_out (by omega)])) ?_
              refine lv_iconst (v := (nI 1)) hx hb dX6_dropOn_78 (by decide) ?_
              refine x_isub M (n := (ρ (22 + 21 * j) - 1)) dX6_dropOn_79 (by omega) ?_
              refine x_iast M hK hw 0 0 rfl rfl (by omega) (by decide) dX6_dropOn_80 (fun H locs hw => ?_)
              rw [upd_row] at hw
              have hw : xW G A s.heap [[(a, .inl (Y 0, 140, .inl (rowF (setN g (22 + 21 * j) (ρ (22 + 21 * j) - 1)))))]] H locs := hw
              refine lv_aload_n hx hb dX6_dropOn_81 rfl (lv_at hl 0 rfl) ?_
              refine lv_iload_n hx hb dX6_dropOn_82 rfl (lv_at hl 1 rfl) ?_
              refine x_cSI (As := [.int (nI j)]) (k_X6_at l G Y j) cw_X6_49 [] M hK hZ hw hl.1 rfl (by decide) ⟨by decide, by decide⟩ ⟨Nat.zero_le _, Nat.zero_le _⟩ rfl rfl (Nat.le_of_ble_eq_true rfl) dX6_dropOn_83 (fun r sg h_5 H locs hw => ?_)
              obtain ⟨rfl, rfl⟩ := h_5
              have hw : xW G A s.heap [[(a, .inl (Y 0, 140, .inl (rowF (setN g (22 + 21 * j) (ρ (22 + 21 * j) - 1)))))]] H locs := hw
              refine lv_bipush (v := (nI 8)) hx hb dX6_dropOn_86 (by decide) ?_
              refine x_iadd M (n := 22 + 21 * j) dX6_dropOn_88 (by omega) ?_
              refine x_iald M hK hw 0 0 rfl rfl (by omega) (by decide) dX6_dropOn_89 ?_
              refine x_topN (n := (ρ (22 + 21 * j) - 1)) (congrArg nI setN_s) ?_
              have hw := row_fold (i := 0) (f' := rowF (mDrop ρ j i)) hw rfl (fun q hq => congrArg nI (by clear hret hw hl M hK hZ hx hb; simp only [setN, hg, mDrop, shf]; (repeat' split) <;> first | rfl | (exfalso; omega) | omega | (congr 1; omega) | (rw [show q = 22 + 21 * j by omega])))
              have hw : xW G A s.heap [[(a, .inl (Y 0, 140, .inl (rowF (mDrop ρ j i))))]] H locs := hw
              exact hret _ _ _ (nI (ρ (22 + 21 * j) - 1)) _ _ dX6_dropOn_90 hw rfl rfl ⟨rfl, rfl⟩
            refine lv_aload_n hx hb dX6_dropOn_57 rfl (lv_at hl 0 rfl) ?_
            refine lv_iload hx hb dX6_dropOn_58 (lv_at hl 4 rfl) ?_
            refine lv_iconst (v := (nI 0)) hx hb dX6_dropOn_60 (by decide) ?_
            refine x_iast M hK hw 0 0 rfl rfl (by omega) (by decide) dX6_dropOn_61 (fun H locs hw => ?_)
            rw [upd_row] at hw
            have hw : xW G A s.heap [[(a, .inl (Y 0, 140, .inl (rowF (setN g q1 0))))]] H locs := hw
            refine lv_iinc (v := (nI (1 + q1))) (lv' := [(4, .int (nI (1 + q1))), (0, .ref a), (1, .int (nI j)), (2, .int (nI i)), (3, .int (nI (23 + 21 * j)))]) hx hb dX6_dropOn_62 hl (k := 4) rfl (by rw [show (1 : Int) = ((1 : Nat) : Int) from rfl, nI_inc]; exact congrArg nI (by omega)) (by decide) rfl (fun ls hl => ?_)
            refine lv_goto (tgt := 48) hx hb dX6_dropOn_65 (by decide) ?_
            exact ih48 (1 + q1) (setN g q1 0) (by omega) (by omega) (by omega) (fun q => by clear hret hw hl M hK hZ hx hb; simp only [setN]; split; (rw [if_pos (by omega)]); (rw [hg q]; (repeat' split) <;> first | rfl | (exfalso; omega))) _ _ hw _ (lv_sub hl [1, 2, 3, 4, 0] rfl)
        exact L48 (35 + 21 * j - (31 + 21 * j) + 1) (31 + 21 * j) g (Nat.lt_succ_self _) (by omega) (by omega) (fun q => by clear hret hw hl M hK hZ hx hb; rw [if_neg (by omega), hg, show q1 = 31 + 21 * j by omega]) _ _ hw _ (lv_sub hl [1, 2, 3, 4, 0] rfl)
      refine lv_aload_n hx hb dX6_dropOn_26 rfl (lv_at hl 0 rfl) ?_
      refine lv_iload hx hb dX6_dropOn_27 (lv_at hl 4 rfl) ?_
      refine lv_aload_n hx hb dX6_dropOn_29 rfl (lv_at hl 0 rfl) ?_
      refine lv_iload hx hb dX6_dropOn_30 (lv_at hl 4 rfl) ?_
      refine lv_iconst (v := (nI 4)) hx hb dX6_dropOn_32 (by decide) ?_
      refine x_iadd M (n := 4 + q1) dX6_dropOn_33 (by omega) ?_
      refine x_iald M hK hw 0 0 rfl rfl (by omega) (by decide) dX6_dropOn_34 ?_
      refine x_iast M hK hw 0 0 rfl rfl (by omega) (by decide) dX6_dropOn_35 (fun H locs hw => ?_)
      rw [upd_row] at hw
      have hw : xW G A s.heap [[(a, .inl (Y 0, 140, .inl (rowF (setN g q1 (g (4 + q1))))))]] H locs := hw
      refine lv_iinc (v := (nI (1 + q1))) (lv' := [(4, .int (nI (1 + q1))), (0, .ref a), (1, .int (nI j)), (2, .int (nI i)), (3, .int (nI (23 + 21 * j)))]) hx hb dX6_dropOn_36 hl (k := 4) rfl (by rw [show (1 : Int) = ((1 : Nat) : Int) from rfl, nI_inc]; exact congrArg nI (by omega)) (by decide) rfl (fun ls hl => ?_)
      refine lv_goto (tgt := 17) hx hb dX6_dropOn_39 (by decide) ?_
      exact ih17 (1 + q1) (setN g q1 (g (4 + q1))) (by omega) (by omega) (by omega) (by clear hret hw hl M hK hZ hx hb; rw [hg, show 1 + q1 = q1 + 1 by omega]; exact shf_4 (by omega) (by rw [shf_out (by omega)]; congr 1; omega)) _ _ hw _ (lv_sub hl [1, 2, 3, 4, 0] rfl)
  exact L17 (31 + 21 * j - (23 + 21 * j + 4 * (i - 1)) + 1) (23 + 21 * j + 4 * (i - 1)) ρ (Nat.lt_succ_self _) (by omega) (by omega) (shf_0.symm) _ _ hw _ (lv_sub hl [2, 3, 4, 1, 0] rfl)
