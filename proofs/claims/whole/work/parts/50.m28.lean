theorem cost_sum {ρ : Nat → Nat} : ∀ {n : Nat}, sumB (fun b => worOf ρ b 0) n = sumB (fun b => ρ (19 + 21 * b + 0)) n * ρ 11 + sumB (fun b => ρ (19 + 21 * b + 1)) n * ρ 12 + sumB (fun b => ρ (19 + 21 * b + 2)) n * ρ 13
  | 0 => by simp [sumB]
  | n + 1 => by
    show sumB (fun b => worOf ρ b 0) n + worOf ρ n 0 = (sumB _ n + ρ (19 + 21 * n + 0)) * ρ 11 + (sumB _ n + ρ (19 + 21 * n + 1)) * ρ 12 + (sumB _ n + ρ (19 + 21 * n + 2)) * ρ 13
    rw [cost_sum, Nat.add_mul, Nat.add_mul, Nat.add_mul]
    unfold worOf costOf
    rw [if_neg (by decide), show 19 + 21 * n + 0 = 19 + 21 * n from rfl, show 19 + 21 * n + 1 = 20 + 21 * n by omega, show 19 + 21 * n + 2 = 21 + 21 * n by omega]
    omega
set_option maxHeartbeats 4000000 in
set_option maxRecDepth 20000 in
theorem k_X6_about (l : Launch) (G : va_G) (Y : Nat → Nat) (mo rf tx sz nw tr dy ac kp ik td ch sp ou : Nat) (ρ : Nat → Nat) (w : Nat) (hI : Inv ρ) (hw6 : w < 6) : CtI l yX6_about cX6_about 5 .int 3 65 [.ref mo, .int (nI w)] [[(mo, .inr (5, [.int (nI rf), .ref tx, .int (nI sz), .ref nw, .ref tr, .ref dy, .int (nI ac), .ref kp, .ref ik, .ref td, .ref ch, .int (nI sp), .int (nI ou)]))], [(nw, .inl (Y 0, 140, .inl (rowF ρ)))]] (fun r sg => r = nI (abtV ρ w) ∧ sg = [[(mo, .inr (5, [.int (nI 0), .ref tx, .int (nI sz), .ref nw, .ref tr, .ref dy, .int (nI ac), .ref kp, .ref ik, .ref td, .ref ch, .int (nI sp), .int (nI ou)]))], [(nw, .inl (Y 0, 140, .inl (rowF ρ)))]]) G Y := by
  refine x_ofI (by decide) (Nat.le_of_ble_eq_true rfl) (fun p e s m args below meth c A ls Q M hK hZ hw hl hret => ?_)
  obtain ⟨hx, hb, -⟩ := id M
  have hl : lv_has ls 5 [(0, .ref mo), (1, .int (nI w))] := hl
  have := hI.n6
  have := hI.over
  have := hI.keep
  have := hI.stepp
  refine lv_aload_n hx hb dX6_about_0 rfl (lv_at hl 0 rfl) ?_
  refine lv_iload_n hx hb dX6_about_1 rfl (lv_at hl 1 rfl) ?_
  refine lv_i2l (v := (nI w).toInt64) hx hb dX6_about_2 rfl ?_
  refine lv_lconst (v := 0) hx hb dX6_about_3 (by decide) ?_
  refine lv_ldc2 (v := 5) hx hb M.2.2.2.1 (M.2.2.2.2 _ mw_1149) dX6_about_4 ?_
  refine x_cSI (As := [.long ((nI w).toInt64), .long 0, .long 5]) (k_X6_in l G Y ((nI w).toInt64) 0 5) cw_X6_45 [] M hK hZ hw hl.1 rfl (by decide) ⟨by decide, by decide⟩ ⟨Nat.zero_le _, Nat.zero_le _⟩ rfl rfl (Nat.le_of_ble_eq_true rfl) dX6_about_7 (fun r sg h_1 H locs hw => ?_)
  obtain ⟨rfl, rfl⟩ := h_1
  have hw : xW G A s.heap [[(mo, .inr (5, [.int (nI rf), .ref tx, .int (nI sz), .ref nw, .ref tr, .ref dy, .int (nI ac), .ref kp, .ref ik, .ref td, .ref ch, .int (nI sp), .int (nI ou)]))], [(nw, .inl (Y 0, 140, .inl (rowF ρ)))]] H locs := hw
  refine x_topI (y := b2i (inZ (nI w).toInt 0 5)) (by rw [Int32.toInt_toInt64]; rfl) ?_
  refine x_beq M (tgt := 17) dX6_about_10 (by decide) (fun c_2 => absurd c_2 (fun z => pzF z (by omega) ⟨by omega, by omega⟩)) (fun c_2 => ?_)
  refine lv_iconst (v := (nI 0)) hx hb dX6_about_13 (by decide) ?_
  refine lv_goto (tgt := 18) hx hb dX6_about_14 (by decide) ?_
  refine x_cVI (As := [.int (nI 0)]) (k_X6_refused l G Y mo rf tx sz nw tr dy ac kp ik td ch sp ou 0 (by omega)) cw_X6_103 [0] 0 0 M hK hZ hw hl.1 rfl (by decide) rfl rfl rfl ⟨by decide, by decide⟩ ⟨Nat.zero_le _, Nat.zero_le _⟩ rfl rfl (Nat.le_of_ble_eq_true rfl) dX6_about_18 (fun r sg h_3 H locs hw => ?_)
  obtain ⟨rfl, rfl⟩ := h_3
  have hw : xW G A s.heap [[(mo, .inr (5, [.int (nI 0), .ref tx, .int (nI sz), .ref nw, .ref tr, .ref dy, .int (nI ac), .ref kp, .ref ik, .ref td, .ref ch, .int (nI sp), .int (nI ou)]))], [(nw, .inl (Y 0, 140, .inl (rowF ρ)))]] H locs := hw
  refine x_beq M (tgt := 26) dX6_about_21 (by decide) (fun c_4 => ?_) (fun c_4 => absurd c_4 (fun z => by first | exact absurd z (by decide) | (have := of_decide_eq_true z; omega) | (have := of_decide_eq_false z; omega)))
  refine lv_iconst (v := (nI 0)) hx hb dX6_about_26 (by decide) ?_
  refine lv_istore_n (lv' := [(2, .int (nI 0)), (0, .ref mo), (1, .int (nI w))]) hx hb dX6_about_27 rfl hl (by decide) rfl (fun ls hl => ?_)
  refine lv_iconst (v := (nI 0)) hx hb dX6_about_28 (by decide) ?_
  refine lv_istore_n (lv' := [(3, .int (nI 0)), (2, .int (nI 0)), (0, .ref mo), (1, .int (nI w))]) hx hb dX6_about_29 rfl hl (by decide) rfl (fun ls hl => ?_)
  refine lv_iconst (v := (nI 0)) hx hb dX6_about_30 (by decide) ?_
  refine lv_istore (lv' := [(4, .int (nI 0)), (3, .int (nI 0)), (2, .int (nI 0)), (0, .ref mo), (1, .int (nI w))]) hx hb dX6_about_31 hl (by decide) rfl (fun ls hl => ?_)
  have L33 : ∀ (fu : Nat) (i : Nat) (x : Nat) (y : Nat), (ρ 4 - i < fu) → (i ≤ ρ 4) → (x = sumB (fun b => ρ (22 + 21 * b)) i) → (y = sumB (fun b => worOf ρ b 0) i) → (x ≤ 3 * i) → (y ≤ 2699973 * i) → ∀ (H : Heap) (locs : List Loc), xW G A s.heap [[(mo, .inr (5, [.int (nI 0), .ref tx, .int (nI sz), .ref nw, .ref tr, .ref dy, .int (nI ac), .ref kp, .ref ik, .ref td, .ref ch, .int (nI sp), .int (nI ou)]))], [(nw, .inl (Y 0, 140, .inl (rowF ρ)))]] H locs → ∀ (ls : Array Slot), lv_has ls 5 [(0, .ref mo), (1, .int (nI w)), (2, .int (nI x)), (3, .int (nI y)), (4, .int (nI i))] → W p l e (xRm 3 65) s m args below meth c H locs 0 0 Q (F0 m 33 ls []) := by
    intro fu
    induction fu with
    | zero => intro i x y hm; exact absurd hm (Nat.not_lt_zero _)
    | succ fu ih33 =>
      intro i x y hm hi hx2 hy2 hx9 hy9 H locs hw ls hl
      refine lv_iload hx hb dX6_about_33 (lv_at hl 4 rfl) ?_
      refine lv_aload_n hx hb dX6_about_35 rfl (lv_at hl 0 rfl) ?_
      refine x_get M hK hw 0 0 rfl rfl ff_X6_13 rfl dX6_about_36 ?_
      refine lv_iconst (v := (nI 4)) hx hb dX6_about_39 (by decide) ?_
      refine x_iald M hK hw 1 0 rfl rfl (by decide) (by decide) dX6_about_40 ?_
      refine x_topN (n := ρ 4) rfl ?_
      have q_5 : ρ 4 ≤ 6 := hI.n6
      refine x_cge M (tgt := 80) (by omega) (by omega) dX6_about_41 (by decide) (fun c_6 => ?_) (fun c_6 => ?_)
      · refine lv_iload_n hx hb dX6_about_80 rfl (lv_at hl 1 rfl) ?_
        refine x_zne M (tgt := 93) (by omega) dX6_about_81 (by decide) (fun c_7 => ?_) (fun c_7 => ?_)
        · refine lv_iload_n hx hb dX6_about_93 rfl (lv_at hl 1 rfl) ?_
          refine lv_iconst (v := (nI 1)) hx hb dX6_about_94 (by decide) ?_
          refine x_cne M (tgt := 107) (by omega) (by decide) dX6_about_95 (by decide) (fun c_8 => ?_) (fun c_8 => ?_)
          · refine lv_iload_n hx hb dX6_about_107 rfl (lv_at hl 1 rfl) ?_
            refine lv_iconst (v := (nI 2)) hx hb dX6_about_108 (by decide) ?_
            refine x_cne M (tgt := 121) (by omega) (by decide) dX6_about_109 (by decide) (fun c_9 => ?_) (fun c_9 => ?_)
            · refine lv_iload_n hx hb dX6_about_121 rfl (lv_at hl 1 rfl) ?_
              refine lv_iconst (v := (nI 3)) hx hb dX6_about_122 (by decide) ?_
              refine x_cne M (tgt := 136) (by omega) (by decide) dX6_about_123 (by decide) (fun c_10 => ?_) (fun c_10 => ?_)
              · refine lv_iload_n hx hb dX6_about_136 rfl (lv_at hl 1 rfl) ?_
                refine lv_iconst (v := (nI 4)) hx hb dX6_about_137 (by decide) ?_
                refine x_cne M (tgt := 145) (by omega) (by decide) dX6_about_138 (by decide) (fun c_11 => ?_) (fun c_11 => ?_)
                · refine lv_iload_n hx hb dX6_about_145 rfl (lv_at hl 3 rfl) ?_
                  exact hret _ _ _ (nI y) _ _ dX6_about_146 hw rfl rfl ⟨by clear hret hw hl M hK hZ hx hb; unfold abtV; rw [if_neg (by omega), if_neg (by omega), if_neg (by omega), if_neg (by omega), if_neg (by omega)]; rw [hy2, show i = ρ 4 by omega, cost_sum]; rfl, rfl⟩
                refine lv_iload_n hx hb dX6_about_141 rfl (lv_at hl 2 rfl) ?_
                refine lv_goto (tgt := 146) hx hb dX6_about_142 (by decide) ?_
                exact hret _ _ _ (nI x) _ _ dX6_about_146 hw rfl rfl ⟨by clear hret hw hl M hK hZ hx hb; unfold abtV; rw [if_neg (by omega), if_neg (by omega), if_neg (by omega), if_neg (by omega), if_pos (by omega)]; rw [hx2, show i = ρ 4 by omega]; rfl, rfl⟩
              refine lv_aload_n hx hb dX6_about_126 rfl (lv_at hl 0 rfl) ?_
              refine x_get M hK hw 0 0 rfl rfl ff_X6_13 rfl dX6_about_127 ?_
              refine x_cSI (As := [.ref nw]) (k_X6_excess l G Y nw ρ (hI)) cw_X6_70 [1] M hK hZ hw hl.1 rfl (by decide) ⟨by decide, by decide⟩ ⟨Nat.zero_le _, Nat.zero_le _⟩ rfl rfl (Nat.le_of_ble_eq_true rfl) dX6_about_130 (fun r sg h_12 H locs hw => ?_)
              obtain ⟨rfl, rfl⟩ := h_12
              have hw : xW G A s.heap [[(mo, .inr (5, [.int (nI 0), .ref tx, .int (nI sz), .ref nw, .ref tr, .ref dy, .int (nI ac), .ref kp, .ref ik, .ref td, .ref ch, .int (nI sp), .int (nI ou)]))], [(nw, .inl (Y 0, 140, .inl (rowF ρ)))]] H locs := hw
              refine lv_goto (tgt := 146) hx hb dX6_about_133 (by decide) ?_
              exact hret _ _ _ (nI (scarce ρ)) _ _ dX6_about_146 hw rfl rfl ⟨by clear hret hw hl M hK hZ hx hb; unfold abtV; rw [if_neg (by omega), if_neg (by omega), if_neg (by omega), if_pos (by omega)], rfl⟩
            refine lv_aload_n hx hb dX6_about_112 rfl (lv_at hl 0 rfl) ?_
            refine x_get M hK hw 0 0 rfl rfl ff_X6_13 rfl dX6_about_113 ?_
            refine lv_iconst (v := (nI 1)) hx hb dX6_about_116 (by decide) ?_
            refine x_iald M hK hw 1 0 rfl rfl (by decide) (by decide) dX6_about_117 ?_
            refine x_topN (n := ρ 1) rfl ?_
            have q_13 : ρ 1 ≤ 1 := hI.over
            refine lv_goto (tgt := 146) hx hb dX6_about_118 (by decide) ?_
            exact hret _ _ _ (nI (ρ 1)) _ _ dX6_about_146 hw rfl rfl ⟨by clear hret hw hl M hK hZ hx hb; unfold abtV; rw [if_neg (by omega), if_neg (by omega), if_pos (by omega)], rfl⟩
          refine lv_aload_n hx hb dX6_about_98 rfl (lv_at hl 0 rfl) ?_
          refine x_get M hK hw 0 0 rfl rfl ff_X6_13 rfl dX6_about_99 ?_
          refine lv_iconst (v := (nI 0)) hx hb dX6_about_102 (by decide) ?_
          refine x_iald M hK hw 1 0 rfl rfl (by decide) (by decide) dX6_about_103 ?_
          refine x_topN (n := ρ 0) rfl ?_
          refine lv_goto (tgt := 146) hx hb dX6_about_104 (by decide) ?_
          exact hret _ _ _ (nI (ρ 0)) _ _ dX6_about_146 hw rfl rfl ⟨by clear hret hw hl M hK hZ hx hb; unfold abtV; rw [if_neg (by omega), if_pos (by omega)], rfl⟩
        refine lv_aload_n hx hb dX6_about_84 rfl (lv_at hl 0 rfl) ?_
        refine x_get M hK hw 0 0 rfl rfl ff_X6_13 rfl dX6_about_85 ?_
        refine lv_iconst (v := (nI 4)) hx hb dX6_about_88 (by decide) ?_
        refine x_iald M hK hw 1 0 rfl rfl (by decide) (by decide) dX6_about_89 ?_
        refine x_topN (n := ρ 4) rfl ?_
        refine lv_goto (tgt := 146) hx hb dX6_about_90 (by decide) ?_
        exact hret _ _ _ (nI (ρ 4)) _ _ dX6_about_146 hw rfl rfl ⟨by clear hret hw hl M hK hZ hx hb; unfold abtV; rw [if_pos (by omega)], rfl⟩
      refine lv_iload_n hx hb dX6_about_44 rfl (lv_at hl 2 rfl) ?_
      refine lv_aload_n hx hb dX6_about_45 rfl (lv_at hl 0 rfl) ?_
      refine x_get M hK hw 0 0 rfl rfl ff_X6_13 rfl dX6_about_46 ?_
      refine lv_iload hx hb dX6_about_49 (lv_at hl 4 rfl) ?_
      refine x_cSI (As := [.int (nI i)]) (k_X6_at l G Y i) cw_X6_49 [] M hK hZ hw hl.1 rfl (by decide) ⟨by decide, by decide⟩ ⟨Nat.zero_le _, Nat.zero_le _⟩ rfl rfl (Nat.le_of_ble_eq_true rfl) dX6_about_51 (fun r sg h_14 H locs hw => ?_)
      obtain ⟨rfl, rfl⟩ := h_14
      have hw : xW G A s.heap [[(mo, .inr (5, [.int (nI 0), .ref tx, .int (nI sz), .ref nw, .ref tr, .ref dy, .int (nI ac), .ref kp, .ref ik, .ref td, .ref ch, .int (nI sp), .int (nI ou)]))], [(nw, .inl (Y 0, 140, .inl (rowF ρ)))]] H locs := hw
      refine lv_bipush (v := (nI 8)) hx hb dX6_about_54 (by decide) ?_
      refine x_iadd M (n := 22 + 21 * i) dX6_about_56 (by omega) ?_
      refine x_iald M hK hw 1 0 rfl rfl (by omega) (by decide) dX6_about_57 ?_
      refine x_topN (n := ρ (22 + 21 * i)) rfl ?_
      have q_15 : ρ (22 + 21 * i) ≤ 3 := hI.pck (j := i) (by omega) (by omega)
      refine x_iadd M (n := x + ρ (22 + 21 * i)) dX6_about_58 rfl ?_
      refine lv_istore_n (lv' := [(2, .int (nI (x + ρ (22 + 21 * i)))), (0, .ref mo), (1, .int (nI w)), (3, .int (nI y)), (4, .int (nI i))]) hx hb dX6_about_59 rfl hl (by decide) rfl (fun ls hl => ?_)
      refine lv_iload_n hx hb dX6_about_60 rfl (lv_at hl 3 rfl) ?_
      refine lv_aload_n hx hb dX6_about_61 rfl (lv_at hl 1 rfl) ?_
      refine x_get M hK hw 0 0 rfl rfl ff_X6_13 rfl dX6_about_62 ?_
      refine lv_iload hx hb dX6_about_65 (lv_at hl 4 rfl) ?_
      refine lv_iconst (v := (nI 0)) hx hb dX6_about_67 (by decide) ?_
      refine lv_iconst (v := (nI 3)) hx hb dX6_about_68 (by decide) ?_
      refine x_cSI (As := [.ref nw, .int (nI i), .int (nI 0), .int (nI 3)]) (k_X6_packOf3 l G Y nw i 0 ρ (hI) (by omega) (by omega)) cw_X6_91 [1] M hK hZ hw hl.1 rfl (by decide) ⟨by decide, by decide⟩ ⟨Nat.zero_le _, Nat.zero_le _⟩ rfl rfl (Nat.le_of_ble_eq_true rfl) dX6_about_69 (fun r sg h_16 H locs hw => ?_)
      obtain ⟨rfl, rfl⟩ := h_16
      have hw : xW G A s.heap [[(mo, .inr (5, [.int (nI 0), .ref tx, .int (nI sz), .ref nw, .ref tr, .ref dy, .int (nI ac), .ref kp, .ref ik, .ref td, .ref ch, .int (nI sp), .int (nI ou)]))], [(nw, .inl (Y 0, 140, .inl (rowF ρ)))]] H locs := hw
      have q_17 : worOf ρ i 0 ≤ 2699973 := worOf_le hI (by omega) (by omega)
      refine x_iadd M (n := y + worOf ρ i 0) dX6_about_72 rfl ?_
      refine lv_istore_n (lv' := [(3, .int (nI (y + worOf ρ i 0))), (2, .int (nI (x + ρ (22 + 21 * i)))), (0, .ref mo), (1, .int (nI w)), (4, .int (nI i))]) hx hb dX6_about_73 rfl hl (by decide) rfl (fun ls hl => ?_)
      refine lv_iinc (v := (nI (1 + i))) (lv' := [(4, .int (nI (1 + i))), (3, .int (nI (y + worOf ρ i 0))), (2, .int (nI (x + ρ (22 + 21 * i)))), (0, .ref mo), (1, .int (nI w))]) hx hb dX6_about_74 hl (k := 4) rfl (by rw [show (1 : Int) = ((1 : Nat) : Int) from rfl, nI_inc]; exact congrArg nI (by omega)) (by decide) rfl (fun ls hl => ?_)
      refine lv_goto (tgt := 33) hx hb dX6_about_77 (by decide) ?_
      exact ih33 (1 + i) (x + ρ (22 + 21 * i)) (y + worOf ρ i 0) (by omega) (by omega) (by rw [sumB_1, ← hx2]) (by rw [sumB_1, ← hy2]) (by omega) (by omega) _ _ hw _ (lv_sub hl [3, 4, 2, 1, 0] rfl)
  exact L33 (ρ 4 - 0 + 1) 0 0 0 (Nat.lt_succ_self _) (by omega) (rfl) (rfl) (by omega) (by omega) _ _ hw _ (lv_sub hl [3, 4, 2, 1, 0] rfl)
set_option maxHeartbeats 4000000 in
set_option maxRecDepth 20000 in
theorem f_X6_about (l : Launch) (G : va_G) (Y : Nat → Nat) (mo rf tx sz nw tr dy ac kp ik td ch sp ou : Nat) (ρ : Nat → Nat) (w : Int32) (hk : inZ w.toInt 0 5 = false) : CtI l yX6_about cX6_about 5 .int 1 25 [.ref mo, .int w] [[(mo, .inr (5, [.int (nI rf), .ref tx, .int (nI sz), .ref nw, .ref tr, .ref dy, .int (nI ac), .ref kp, .ref ik, .ref td, .ref ch, .int (nI sp), .int (nI ou)]))], [(nw, .inl (Y 0, 140, .inl (rowF ρ)))]] (fun r sg => r = nI 0 ∧ sg = [[(mo, .inr (5, [.int (nI 1), .ref tx, .int (nI sz), .ref nw, .ref tr, .ref dy, .int (nI ac), .ref kp, .ref ik, .ref td, .ref ch, .int (nI sp), .int (nI ou)]))], [(nw, .inl (Y 0, 140, .inl (rowF ρ)))]]) G Y := by
  refine x_ofI (by decide) (Nat.le_of_ble_eq_true rfl) (fun p e s m args below meth c A ls Q M hK hZ hw hl hret => ?_)
  obtain ⟨hx, hb, -⟩ := id M
  have hl : lv_has ls 5 [(0, .ref mo), (1, .int w)] := hl
  refine lv_aload_n hx hb dX6_about_0 rfl (lv_at hl 0 rfl) ?_
  refine lv_iload_n hx hb dX6_about_1 rfl (lv_at hl 1 rfl) ?_
  refine lv_i2l (v := w.toInt64) hx hb dX6_about_2 rfl ?_
  refine lv_lconst (v := 0) hx hb dX6_about_3 (by decide) ?_
  refine lv_ldc2 (v := 5) hx hb M.2.2.2.1 (M.2.2.2.2 _ mw_1149) dX6_about_4 ?_
  refine x_cSI (As := [.long w.toInt64, .long 0, .long 5]) (k_X6_in l G Y w.toInt64 0 5) cw_X6_45 [] M hK hZ hw hl.1 rfl (by decide) ⟨by decide, by decide⟩ ⟨Nat.zero_le _, Nat.zero_le _⟩ rfl rfl (Nat.le_of_ble_eq_true rfl) dX6_about_7 (fun r sg h_1 H locs hw => ?_)
  obtain ⟨rfl, rfl⟩ := h_1
  have hw : xW G A s.heap [[(mo, .inr (5, [.int (nI rf), .ref tx, .int (nI sz), .ref nw, .ref tr, .ref dy, .int (nI ac), .ref kp, .ref ik, .ref td, .ref ch, .int (nI sp), .int (nI ou)]))], [(nw, .inl (Y 0, 140, .inl (rowF ρ)))]] H locs := hw
  refine x_topI (y := b2i (inZ w.toInt 0 5)) (by rw [Int32.toInt_toInt64]; rfl) ?_
  refine x_beq M (tgt := 17) dX6_about_10 (by decide) (fun c_2 => ?_) (fun c_2 => absurd c_2 (fun z => by have h9 := z; rw [hk] at h9; exact absurd h9 (by decide)))
  refine lv_iconst (v := (nI 1)) hx hb dX6_about_17 (by decide) ?_
  refine x_cVI (As := [.int (nI 1)]) (k_X6_refused l G Y mo rf tx sz nw tr dy ac kp ik td ch sp ou 1 (by omega)) cw_X6_103 [0] 0 0 M hK hZ hw hl.1 rfl (by decide) rfl rfl rfl ⟨by decide, by decide⟩ ⟨Nat.zero_le _, Nat.zero_le _⟩ rfl rfl (Nat.le_of_ble_eq_true rfl) dX6_about_18 (fun r sg h_3 H locs hw => ?_)
  obtain ⟨rfl, rfl⟩ := h_3
  have hw : xW G A s.heap [[(mo, .inr (5, [.int (nI 1), .ref tx, .int (nI sz), .ref nw, .ref tr, .ref dy, .int (nI ac), .ref kp, .ref ik, .ref td, .ref ch, .int (nI sp), .int (nI ou)]))], [(nw, .inl (Y 0, 140, .inl (rowF ρ)))]] H locs := hw
  refine x_beq M (tgt := 26) dX6_about_21 (by decide) (fun c_4 => absurd c_4 (fun z => by first | exact absurd z (by decide) | (have := of_decide_eq_true z; omega) | (have := of_decide_eq_false z; omega))) (fun c_4 => ?_)
  refine lv_iconst (v := (nI 0)) hx hb dX6_about_24 (by decide) ?_
  exact hret _ _ _ (nI 0) _ _ dX6_about_25 hw rfl rfl ⟨rfl, rfl⟩
set_option maxHeartbeats 4000000 in
set_option maxRecDepth 20000 in
theorem k_X6_kind (l : Launch) (G : va_G) (Y : Nat → Nat) (mo rf tx sz nw tr dy ac kp ik td ch sp ou : Nat) (ρ : Nat → Nat) (k w : Nat) (hI : Inv ρ) (hk : k < 3) (hw4 : w < 4) : CtI l yX6_kind cX6_kind 3 .int 2 45 [.ref mo, .int (nI k), .int (nI w)] [[(mo, .inr (5, [.int (nI rf), .ref tx, .int (nI sz), .ref nw, .ref tr, .ref dy, .int (nI ac), .ref kp, .ref ik, .ref td, .ref ch, .int (nI sp), .int (nI ou)]))], [(nw, .inl (Y 0, 140, .inl (rowF ρ)))]] (fun r sg => r = nI (kndV ρ k w) ∧ sg = [[(mo, .inr (5, [.int (nI 0), .ref tx, .int (nI sz), .ref nw, .ref tr, .ref dy, .int (nI ac), .ref kp, .ref ik, .ref td, .ref ch, .int (nI sp), .int (nI ou)]))], [(nw, .inl (Y 0, 140, .inl (rowF ρ)))]]) G Y := by
  refine x_ofI (by decide) (Nat.le_of_ble_eq_true rfl) (fun p e s m args below meth c A ls Q M hK hZ hw hl hret => ?_)
  obtain ⟨hx, hb, -⟩ := id M
  have hl : lv_has ls 3 [(0, .ref mo), (1, .int (nI k)), (2, .int (nI w))] := hl
  have := hI.n6
  have := hI.over
  have := hI.keep
  have := hI.stepp
  refine lv_aload_n hx hb dX6_kind_0 rfl (lv_at hl 0 rfl) ?_
  refine lv_iload_n hx hb dX6_kind_1 rfl (lv_at hl 1 rfl) ?_
  refine x_cSI (As := [.int (nI k)]) (k_X6_isKind l G Y (nI k)) cw_X6_83 [] M hK hZ hw hl.1 rfl (by decide) ⟨by decide, by decide⟩ ⟨Nat.zero_le _, Nat.zero_le _⟩ rfl rfl (Nat.le_of_ble_eq_true rfl) dX6_kind_2 (fun r sg h_1 H locs hw => ?_)
  obtain ⟨rfl, rfl⟩ := h_1
  have hw : xW G A s.heap [[(mo, .inr (5, [.int (nI rf), .ref tx, .int (nI sz), .ref nw, .ref tr, .ref dy, .int (nI ac), .ref kp, .ref ik, .ref td, .ref ch, .int (nI sp), .int (nI ou)]))], [(nw, .inl (Y 0, 140, .inl (rowF ρ)))]] H locs := hw
  refine x_bne M (tgt := 12) dX6_kind_5 (by decide) (fun c_2 => ?_) (fun c_2 => absurd c_2 (fun z => pzF z (by omega) ⟨by omega, by omega⟩))
  refine lv_iload_n hx hb dX6_kind_12 rfl (lv_at hl 2 rfl) ?_
  refine lv_i2l (v := (nI w).toInt64) hx hb dX6_kind_13 rfl ?_
  refine lv_lconst (v := 0) hx hb dX6_kind_14 (by decide) ?_
  refine lv_ldc2 (v := 3) hx hb M.2.2.2.1 (M.2.2.2.2 _ mw_1157) dX6_kind_15 ?_
  refine x_cSI (As := [.long ((nI w).toInt64), .long 0, .long 3]) (k_X6_in l G Y ((nI w).toInt64) 0 3) cw_X6_45 [] M hK hZ hw hl.1 rfl (by decide) ⟨by decide, by decide⟩ ⟨Nat.zero_le _, Nat.zero_le _⟩ rfl rfl (Nat.le_of_ble_eq_true rfl) dX6_kind_18 (fun r sg h_3 H locs hw => ?_)
  obtain ⟨rfl, rfl⟩ := h_3
  have hw : xW G A s.heap [[(mo, .inr (5, [.int (nI rf), .ref tx, .int (nI sz), .ref nw, .ref tr, .ref dy, .int (nI ac), .ref kp, .ref ik, .ref td, .ref ch, .int (nI sp), .int (nI ou)]))], [(nw, .inl (Y 0, 140, .inl (rowF ρ)))]] H locs := hw
  refine x_topI (y := b2i (inZ (nI w).toInt 0 3)) (by rw [Int32.toInt_toInt64]; rfl) ?_
  refine x_beq M (tgt := 28) dX6_kind_21 (by decide) (fun c_4 => absurd c_4 (fun z => pzF z (by omega) ⟨by omega, by omega⟩)) (fun c_4 => ?_)
  refine lv_iconst (v := (nI 0)) hx hb dX6_kind_24 (by decide) ?_
  refine lv_goto (tgt := 29) hx hb dX6_kind_25 (by decide) ?_
  refine x_cVI (As := [.int (nI 0)]) (k_X6_refused l G Y mo rf tx sz nw tr dy ac kp ik td ch sp ou 0 (by omega)) cw_X6_103 [0] 0 0 M hK hZ hw hl.1 rfl (by decide) rfl rfl rfl ⟨by decide, by decide⟩ ⟨Nat.zero_le _, Nat.zero_le _⟩ rfl rfl (Nat.le_of_ble_eq_true rfl) dX6_kind_29 (fun r sg h_5 H locs hw => ?_)
  obtain ⟨rfl, rfl⟩ := h_5
  have hw : xW G A s.heap [[(mo, .inr (5, [.int (nI 0), .ref tx, .int (nI sz), .ref nw, .ref tr, .ref dy, .int (nI ac), .ref kp, .ref ik, .ref td, .ref ch, .int (nI sp), .int (nI ou)]))], [(nw, .inl (Y 0, 140, .inl (rowF ρ)))]] H locs := hw
  refine x_beq M (tgt := 37) dX6_kind_32 (by decide) (fun c_6 => ?_) (fun c_6 => absurd c_6 (fun z => by first | exact absurd z (by decide) | (have := of_decide_eq_true z; omega) | (have := of_decide_eq_false z; omega)))
  rcases (show w = 0 ∨ w = 1 ∨ w = 2 ∨ w = 3 by omega) with rfl | rfl | rfl | rfl
  · refine lv_iload_n hx hb dX6_kind_37 rfl (lv_at hl 2 rfl) ?_
    refine lv_iconst (v := (nI 3)) hx hb dX6_kind_38 (by decide) ?_
    refine x_cne M (tgt := 53) (by decide) (by decide) dX6_kind_39 (by decide) (fun c_7 => ?_) (fun c_7 => absurd c_7 (by decide))
    refine lv_aload_n hx hb dX6_kind_53 rfl (lv_at hl 0 rfl) ?_
    refine x_get M hK hw 0 0 rfl rfl ff_X6_13 rfl dX6_kind_54 ?_
    refine lv_iconst (v := (nI 5)) hx hb dX6_kind_57 (by decide) ?_
    refine lv_iconst (v := (nI 3)) hx hb dX6_kind_58 (by decide) ?_
    refine lv_iload_n hx hb dX6_kind_59 rfl (lv_at hl 2 rfl) ?_
    refine x_imul M (n := 0) dX6_kind_60 rfl ?_
    refine x_iadd M (n := 5) dX6_kind_61 rfl ?_
    refine lv_iload_n hx hb dX6_kind_62 rfl (lv_at hl 1 rfl) ?_
    refine x_iadd M (n := 5 + k) dX6_kind_63 rfl ?_
    refine x_iald M hK hw 1 0 rfl rfl (by omega) (by decide) dX6_kind_64 ?_
    refine x_topN (n := ρ (5 + k)) rfl ?_
    have q_8 : 1 ≤ ρ (5 + k) := (hI.sup (k := k) (by omega) rfl).1
    have q_9 : ρ (5 + k) ≤ 9 := (hI.sup (k := k) (by omega) rfl).2
    exact hret _ _ _ (nI (ρ (5 + k))) _ _ dX6_kind_65 hw rfl rfl ⟨rfl, rfl⟩
  · refine lv_iload_n hx hb dX6_kind_37 rfl (lv_at hl 2 rfl) ?_
    refine lv_iconst (v := (nI 3)) hx hb dX6_kind_38 (by decide) ?_
    refine x_cne M (tgt := 53) (by decide) (by decide) dX6_kind_39 (by decide) (fun c_10 => ?_) (fun c_10 => absurd c_10 (by decide))
    refine lv_aload_n hx hb dX6_kind_53 rfl (lv_at hl 0 rfl) ?_
    refine x_get M hK hw 0 0 rfl rfl ff_X6_13 rfl dX6_kind_54 ?_
    refine lv_iconst (v := (nI 5)) hx hb dX6_kind_57 (by decide) ?_
    refine lv_iconst (v := (nI 3)) hx hb dX6_kind_58 (by decide) ?_
    refine lv_iload_n hx hb dX6_kind_59 rfl (lv_at hl 2 rfl) ?_
    refine x_imul M (n := 3) dX6_kind_60 rfl ?_
    refine x_iadd M (n := 8) dX6_kind_61 rfl ?_
    refine lv_iload_n hx hb dX6_kind_62 rfl (lv_at hl 1 rfl) ?_
    refine x_iadd M (n := 8 + k) dX6_kind_63 rfl ?_
    refine x_iald M hK hw 1 0 rfl rfl (by omega) (by decide) dX6_kind_64 ?_
    refine x_topN (n := ρ (8 + k)) rfl ?_
    have q_11 : 1 ≤ ρ (8 + k) := (hI.pts (k := k) (by omega) rfl).1
    have q_12 : ρ (8 + k) ≤ 9 := (hI.pts (k := k) (by omega) rfl).2
    exact hret _ _ _ (nI (ρ (8 + k))) _ _ dX6_kind_65 hw rfl rfl ⟨rfl, rfl⟩
  · refine lv_iload_n hx hb dX6_kind_37 rfl (lv_at hl 2 rfl) ?_
    refine lv_iconst (v := (nI 3)) hx hb dX6_kind_38 (by decide) ?_
    refine x_cne M (tgt := 53) (by decide) (by decide) dX6_kind_39 (by decide) (fun c_13 => ?_) (fun c_13 => absurd c_13 (by decide))
    refine lv_aload_n hx hb dX6_kind_53 rfl (lv_at hl 0 rfl) ?_
    refine x_get M hK hw 0 0 rfl rfl ff_X6_13 rfl dX6_kind_54 ?_
    refine lv_iconst (v := (nI 5)) hx hb dX6_kind_57 (by decide) ?_
    refine lv_iconst (v := (nI 3)) hx hb dX6_kind_58 (by decide) ?_
    refine lv_iload_n hx hb dX6_kind_59 rfl (lv_at hl 2 rfl) ?_
    refine x_imul M (n := 6) dX6_kind_60 rfl ?_
    refine x_iadd M (n := 11) dX6_kind_61 rfl ?_
    refine lv_iload_n hx hb dX6_kind_62 rfl (lv_at hl 1 rfl) ?_
    refine x_iadd M (n := 11 + k) dX6_kind_63 rfl ?_
    refine x_iald M hK hw 1 0 rfl rfl (by omega) (by decide) dX6_kind_64 ?_
    refine x_topN (n := ρ (11 + k)) rfl ?_
    have q_14 : 1 ≤ ρ (11 + k) := (hI.pri (k := k) (by omega) rfl).1
    have q_15 : ρ (11 + k) ≤ 99999 := (hI.pri (k := k) (by omega) rfl).2
    exact hret _ _ _ (nI (ρ (11 + k))) _ _ dX6_kind_65 hw rfl rfl ⟨rfl, rfl⟩
  · refine lv_iload_n hx hb dX6_kind_37 rfl (lv_at hl 2 rfl) ?_
    refine lv_iconst (v := (nI 3)) hx hb dX6_kind_38 (by decide) ?_
    refine x_cne M (tgt := 53) (by decide) (by decide) dX6_kind_39 (by decide) (fun c_16 => absurd c_16 (by decide)) (fun c_16 => ?_)
    refine lv_aload_n hx hb dX6_kind_42 rfl (lv_at hl 0 rfl) ?_
    refine x_get M hK hw 0 0 rfl rfl ff_X6_13 rfl dX6_kind_43 ?_
    refine lv_iload_n hx hb dX6_kind_46 rfl (lv_at hl 1 rfl) ?_
    refine x_cSI (As := [.ref nw, .int (nI k)]) (k_X6_asked l G Y nw k ρ (hI) (by omega)) cw_X6_53 [1] M hK hZ hw hl.1 rfl (by decide) ⟨by decide, by decide⟩ ⟨Nat.zero_le _, Nat.zero_le _⟩ rfl rfl (Nat.le_of_ble_eq_true rfl) dX6_kind_47 (fun r sg h_17 H locs hw => ?_)
    obtain ⟨rfl, rfl⟩ := h_17
    have hw : xW G A s.heap [[(mo, .inr (5, [.int (nI 0), .ref tx, .int (nI sz), .ref nw, .ref tr, .ref dy, .int (nI ac), .ref kp, .ref ik, .ref td, .ref ch, .int (nI sp), .int (nI ou)]))], [(nw, .inl (Y 0, 140, .inl (rowF ρ)))]] H locs := hw
    have q_18 : askedOf ρ k ≤ 54 := askedOf_le hI (by omega)
    refine lv_goto (tgt := 65) hx hb dX6_kind_50 (by decide) ?_
    exact hret _ _ _ (nI (askedOf ρ k)) _ _ dX6_kind_65 hw rfl rfl ⟨rfl, rfl⟩
set_option maxHeartbeats 4000000 in
set_option maxRecDepth 20000 in
theorem f_X6_kind_1 (l : Launch) (G : va_G) (Y : Nat → Nat) (mo rf tx sz nw tr dy ac kp ik td ch sp ou : Nat) (ρ : Nat → Nat) (k w : Int32) (hk : inZ k.toInt 0 2 = false) : CtI l yX6_kind cX6_kind 3 .int 2 45 [.ref mo, .int k, .int w] [[(mo, .inr (5, [.int (nI rf), .ref tx, .int (nI sz), .ref nw, .ref tr, .ref dy, .int (nI ac), .ref kp, .ref ik, .ref td, .ref ch, .int (nI sp), .int (nI ou)]))], [(nw, .inl (Y 0, 140, .inl (rowF ρ)))]] (fun r sg => r = nI 0 ∧ sg = [[(mo, .inr (5, [.int (nI 1), .ref tx, .int (nI sz), .ref nw, .ref tr, .ref dy, .int (nI ac), .ref kp, .ref ik, .ref td, .ref ch, .int (nI sp), .int (nI ou)]))], [(nw, .inl (Y 0, 140, .inl (rowF ρ)))]]) G Y := by
  refine x_ofI (by decide) (Nat.le_of_ble_eq_true rfl) (fun p e s m args below meth c A ls Q M hK hZ hw hl hret => ?_)
  obtain ⟨hx, hb, -⟩ := id M
  have hl : lv_has ls 3 [(0, .ref mo), (1, .int k), (2, .int w)] := hl
  refine lv_aload_n hx hb dX6_kind_0 rfl (lv_at hl 0 rfl) ?_
  refine lv_iload_n hx hb dX6_kind_1 rfl (lv_at hl 1 rfl) ?_
  refine x_cSI (As := [.int k]) (k_X6_isKind l G Y k) cw_X6_83 [] M hK hZ hw hl.1 rfl (by decide) ⟨by decide, by decide⟩ ⟨Nat.zero_le _, Nat.zero_le _⟩ rfl rfl (Nat.le_of_ble_eq_true rfl) dX6_kind_2 (fun r sg h_1 H locs hw => ?_)
  obtain ⟨rfl, rfl⟩ := h_1
  have hw : xW G A s.heap [[(mo, .inr (5, [.int (nI rf), .ref tx, .int (nI sz), .ref nw, .ref tr, .ref dy, .int (nI ac), .ref kp, .ref ik, .ref td, .ref ch, .int (nI sp), .int (nI ou)]))], [(nw, .inl (Y 0, 140, .inl (rowF ρ)))]] H locs := hw
  refine x_bne M (tgt := 12) dX6_kind_5 (by decide) (fun c_2 => absurd c_2 (fun z => by have h9 := z; rw [hk] at h9; exact absurd h9 (by decide))) (fun c_2 => ?_)
  refine lv_iconst (v := (nI 1)) hx hb dX6_kind_8 (by decide) ?_
  refine lv_goto (tgt := 29) hx hb dX6_kind_9 (by decide) ?_
  refine x_cVI (As := [.int (nI 1)]) (k_X6_refused l G Y mo rf tx sz nw tr dy ac kp ik td ch sp ou 1 (by omega)) cw_X6_103 [0] 0 0 M hK hZ hw hl.1 rfl (by decide) rfl rfl rfl ⟨by decide, by decide⟩ ⟨Nat.zero_le _, Nat.zero_le _⟩ rfl rfl (Nat.le_of_ble_eq_true rfl) dX6_kind_29 (fun r sg h_3 H locs hw => ?_)
  obtain ⟨rfl, rfl⟩ := h_3
  have hw : xW G A s.heap [[(mo, .inr (5, [.int (nI 1), .ref tx, .int (nI sz), .ref nw, .ref tr, .ref dy, .int (nI ac), .ref kp, .ref ik, .ref td, .ref ch, .int (nI sp), .int (nI ou)]))], [(nw, .inl (Y 0, 140, .inl (rowF ρ)))]] H locs := hw
  refine x_beq M (tgt := 37) dX6_kind_32 (by decide) (fun c_4 => absurd c_4 (fun z => by first | exact absurd z (by decide) | (have := of_decide_eq_true z; omega) | (have := of_decide_eq_false z; omega))) (fun c_4 => ?_)
  refine lv_iconst (v := (nI 0)) hx hb dX6_kind_35 (by decide) ?_
  exact hret _ _ _ (nI 0) _ _ dX6_kind_36 hw rfl rfl ⟨rfl, rfl⟩
set_option maxHeartbeats 4000000 in
set_option maxRecDepth 20000 in
theorem f_X6_kind_2 (l : Launch) (G : va_G) (Y : Nat → Nat) (mo rf tx sz nw tr dy ac kp ik td ch sp ou : Nat) (ρ : Nat → Nat) (k : Nat) (w : Int32) (hk3 : k < 3) (hk : inZ w.toInt 0 3 = false) : CtI l yX6_kind cX6_kind 3 .int 2 45 [.ref mo, .int (nI k), .int w] [[(mo, .inr (5, [.int (nI rf), .ref tx, .int (nI sz), .ref nw, .ref tr, .ref dy, .int (nI ac), .ref kp, .ref ik, .ref td, .ref ch, .int (nI sp), .int (nI ou)]))], [(nw, .inl (Y 0, 140, .inl (rowF ρ)))]] (fun r sg => r = nI 0 ∧ sg = [[(mo, .inr (5, [.int (nI 2), .ref tx, .int (nI sz), .ref nw, .ref tr, .ref dy, .int (nI ac), .ref kp, .ref ik, .ref td, .ref ch, .int (nI sp), .int (nI ou)]))], [(nw, .inl (Y 0, 140, .inl (rowF ρ)))]]) G Y := by
  refine x_ofI (by decide) (Nat.le_of_ble_eq_true rfl) (fun p e s m args below meth c A ls Q M hK hZ hw hl hret => ?_)
  obtain ⟨hx, hb, -⟩ := id M
  have hl : lv_has ls 3 [(0, .ref mo), (1, .int (nI k)), (2, .int w)] := hl
  refine lv_aload_n hx hb dX6_kind_0 rfl (lv_at hl 0 rfl) ?_
  refine lv_iload_n hx hb dX6_kind_1 rfl (lv_at hl 1 rfl) ?_
  refine x_cSI (As := [.int (nI k)]) (k_X6_isKind l G Y (nI k)) cw_X6_83 [] M hK hZ hw hl.1 rfl (by decide) ⟨by decide, by decide⟩ ⟨Nat.zero_le _, Nat.zero_le _⟩ rfl rfl (Nat.le_of_ble_eq_true rfl) dX6_kind_2 (fun r sg h_1 H locs hw => ?_)
  obtain ⟨rfl, rfl⟩ := h_1
  have hw : xW G A s.heap [[(mo, .inr (5, [.int (nI rf), .ref tx, .int (nI sz), .ref nw, .ref tr, .ref dy, .int (nI ac), .ref kp, .ref ik, .ref td, .ref ch, .int (nI sp), .int (nI ou)]))], [(nw, .inl (Y 0, 140, .inl (rowF ρ)))]] H locs := hw
  refine x_bne M (tgt := 12) dX6_kind_5 (by decide) (fun c_2 => ?_) (fun c_2 => absurd c_2 (fun z => pzF z (by omega) ⟨by omega, by omega⟩))
  refine lv_iload_n hx hb dX6_kind_12 rfl (lv_at hl 2 rfl) ?_
  refine lv_i2l (v := w.toInt64) hx hb dX6_kind_13 rfl ?_
  refine lv_lconst (v := 0) hx hb dX6_kind_14 (by decide) ?_
  refine lv_ldc2 (v := 3) hx hb M.2.2.2.1 (M.2.2.2.2 _ mw_1157) dX6_kind_15 ?_
  refine x_cSI (As := [.long w.toInt64, .long 0, .long 3]) (k_X6_in l G Y w.toInt64 0 3) cw_X6_45 [] M hK hZ hw hl.1 rfl (by decide) ⟨by decide, by decide⟩ ⟨Nat.zero_le _, Nat.zero_le _⟩ rfl rfl (Nat.le_of_ble_eq_true rfl) dX6_kind_18 (fun r sg h_3 H locs hw => ?_)
  obtain ⟨rfl, rfl⟩ := h_3
  have hw : xW G A s.heap [[(mo, .inr (5, [.int (nI rf), .ref tx, .int (nI sz), .ref nw, .ref tr, .ref dy, .int (nI ac), .ref kp, .ref ik, .ref td, .ref ch, .int (nI sp), .int (nI ou)]))], [(nw, .inl (Y 0, 140, .inl (rowF ρ)))]] H locs := hw
  refine x_topI (y := b2i (inZ w.toInt 0 3)) (by rw [Int32.toInt_toInt64]; rfl) ?_
  refine x_beq M (tgt := 28) dX6_kind_21 (by decide) (fun c_4 => ?_) (fun c_4 => absurd c_4 (fun z => by have h9 := z; rw [hk] at h9; exact absurd h9 (by decide)))
  refine lv_iconst (v := (nI 2)) hx hb dX6_kind_28 (by decide) ?_
  refine x_cVI (As := [.int (nI 2)]) (k_X6_refused l G Y mo rf tx sz nw tr dy ac kp ik td ch sp ou 2 (by omega)) cw_X6_103 [0] 0 0 M hK hZ hw hl.1 rfl (by decide) rfl rfl rfl ⟨by decide, by decide⟩ ⟨Nat.zero_le _, Nat.zero_le _⟩ rfl rfl (Nat.le_of_ble_eq_true rfl) dX6_kind_29 (fun r sg h_5 H locs hw => ?_)
  obtain ⟨rfl, rfl⟩ := h_5
  have hw : xW G A s.heap [[(mo, .inr (5, [.int (nI 2), .ref tx, .int (nI sz), .ref nw, .ref tr, .ref dy, .int (nI ac), .ref kp, .ref ik, .ref td, .ref ch, .int (nI sp), .int (nI ou)]))], [(nw, .inl (Y 0, 140, .inl (rowF ρ)))]] H locs := hw
  refine x_beq M (tgt := 37) dX6_kind_32 (by decide) (fun c_6 => absurd c_6 (fun z => by first | exact absurd z (by decide) | (have := of_decide_eq_true z; omega) | (have := of_decide_eq_false z; omega))) (fun c_6 => ?_)
  refine lv_iconst (v := (nI 0)) hx hb dX6_kind_35 (by decide) ?_
  exact hret _ _ _ (nI 0) _ _ dX6_kind_36 hw rfl rfl ⟨rfl, rfl⟩
set_option maxHeartbeats 4000000 in
set_option maxRecDepth 20000 in
theorem k_X6_bidder (l : Launch) (G : va_G) (Y : Nat → Nat) (mo rf tx sz nw tr dy ac kp ik td ch sp ou : Nat) (ρ : Nat → Nat) (j w : Nat) (hI : Inv ρ) (hj : j < ρ 4) (hw5 : w < 5) : CtI l yX6_bidder cX6_bidder 3 .int 2 46 [.ref mo, .int (nI j), .int (nI w)] [[(mo, .inr (5, [.int (nI rf), .ref tx, .int (nI sz), .ref nw, .ref tr, .ref dy, .int (nI ac), .ref kp, .ref ik, .ref td, .ref ch, .int (nI sp), .int (nI ou)]))], [(nw, .inl (Y 0, 140, .inl (rowF ρ)))]] (fun r sg => r = bidV ρ j w ∧ sg = [[(mo, .inr (5, [.int (nI 0), .ref tx, .int (nI sz), .ref nw, .ref tr, .ref dy, .int (nI ac), .ref kp, .ref ik, .ref td, .ref ch, .int (nI sp), .int (nI ou)]))], [(nw, .inl (Y 0, 140, .inl (rowF ρ)))]]) G Y := by
  refine x_ofI (by decide) (Nat.le_of_ble_eq_true rfl) (fun p e s m args below meth c A ls Q M hK hZ hw hl hret => ?_)
  obtain ⟨hx, hb, -⟩ := id M
  have hl : lv_has ls 3 [(0, .ref mo), (1, .int (nI j)), (2, .int (nI w))] := hl
  have := hI.n6
  have := hI.over
  have := hI.keep
  have := hI.stepp
  refine lv_aload_n hx hb dX6_bidder_0 rfl (lv_at hl 0 rfl) ?_
  refine lv_aload_n hx hb dX6_bidder_1 rfl (lv_at hl 0 rfl) ?_
  refine x_get M hK hw 0 0 rfl rfl ff_X6_13 rfl dX6_bidder_2 ?_
  refine lv_iload_n hx hb dX6_bidder_5 rfl (lv_at hl 1 rfl) ?_
  refine x_cSI (As := [.ref nw, .int (nI j)]) (k_X6_isBidder l G Y nw ρ (nI j) (hI)) cw_X6_79 [1] M hK hZ hw hl.1 rfl (by decide) ⟨by decide, by decide⟩ ⟨Nat.zero_le _, Nat.zero_le _⟩ rfl rfl (Nat.le_of_ble_eq_true rfl) dX6_bidder_6 (fun r sg h_1 H locs hw => ?_)
  obtain ⟨rfl, rfl⟩ := h_1
  have hw : xW G A s.heap [[(mo, .inr (5, [.int (nI rf), .ref tx, .int (nI sz), .ref nw, .ref tr, .ref dy, .int (nI ac), .ref kp, .ref ik, .ref td, .ref ch, .int (nI sp), .int (nI ou)]))], [(nw, .inl (Y 0, 140, .inl (rowF ρ)))]] H locs := hw
  refine x_bne M (tgt := 16) dX6_bidder_9 (by decide) (fun c_2 => ?_) (fun c_2 => absurd c_2 (fun z => pzF z (by omega) ⟨by omega, by omega⟩))
  refine lv_iload_n hx hb dX6_bidder_16 rfl (lv_at hl 2 rfl) ?_
  refine lv_i2l (v := (nI w).toInt64) hx hb dX6_bidder_17 rfl ?_
  refine lv_lconst (v := 0) hx hb dX6_bidder_18 (by decide) ?_
  refine lv_ldc2 (v := 4) hx hb M.2.2.2.1 (M.2.2.2.2 _ mw_1162) dX6_bidder_19 ?_
  refine x_cSI (As := [.long ((nI w).toInt64), .long 0, .long 4]) (k_X6_in l G Y ((nI w).toInt64) 0 4) cw_X6_45 [] M hK hZ hw hl.1 rfl (by decide) ⟨by decide, by decide⟩ ⟨Nat.zero_le _, Nat.zero_le _⟩ rfl rfl (Nat.le_of_ble_eq_true rfl) dX6_bidder_22 (fun r sg h_3 H locs hw => ?_)
  obtain ⟨rfl, rfl⟩ := h_3
  have hw : xW G A s.heap [[(mo, .inr (5, [.int (nI rf), .ref tx, .int (nI sz), .ref nw, .ref tr, .ref dy, .int (nI ac), .ref kp, .ref ik, .ref td, .ref ch, .int (nI sp), .int (nI ou)]))], [(nw, .inl (Y 0, 140, .inl (rowF ρ)))]] H locs := hw
  refine x_topI (y := b2i (inZ (nI w).toInt 0 4)) (by rw [Int32.toInt_toInt64]; rfl) ?_
  refine x_beq M (tgt := 32) dX6_bidder_25 (by decide) (fun c_4 => absurd c_4 (fun z => pzF z (by omega) ⟨by omega, by omega⟩)) (fun c_4 => ?_)
  refine lv_iconst (v := (nI 0)) hx hb dX6_bidder_28 (by decide) ?_
  refine lv_goto (tgt := 33) hx hb dX6_bidder_29 (by decide) ?_
  refine x_cVI (As := [.int (nI 0)]) (k_X6_refused l G Y mo rf tx sz nw tr dy ac kp ik td ch sp ou 0 (by omega)) cw_X6_103 [0] 0 0 M hK hZ hw hl.1 rfl (by decide) rfl rfl rfl ⟨by decide, by decide⟩ ⟨Nat.zero_le _, Nat.zero_le _⟩ rfl rfl (Nat.le_of_ble_eq_true rfl) dX6_bidder_33 (fun r sg h_5 H locs hw => ?_)
  obtain ⟨rfl, rfl⟩ := h_5
  have hw : xW G A s.heap [[(mo, .inr (5, [.int (nI 0), .ref tx, .int (nI sz), .ref nw, .ref tr, .ref dy, .int (nI ac), .ref kp, .ref ik, .ref td, .ref ch, .int (nI sp), .int (nI ou)]))], [(nw, .inl (Y 0, 140, .inl (rowF ρ)))]] H locs := hw
  refine x_beq M (tgt := 41) dX6_bidder_36 (by decide) (fun c_6 => ?_) (fun c_6 => absurd c_6 (fun z => by first | exact absurd z (by decide) | (have := of_decide_eq_true z; omega) | (have := of_decide_eq_false z; omega)))
  rcases (show w = 0 ∨ w = 1 ∨ w = 2 ∨ w = 3 ∨ w = 4 by omega) with rfl | rfl | rfl | rfl | rfl
  · refine lv_iload_n hx hb dX6_bidder_41 rfl (lv_at hl 2 rfl) ?_
    refine lv_iconst (v := (nI 2)) hx hb dX6_bidder_42 (by decide) ?_
    refine x_cge M (tgt := 60) (by decide) (by decide) dX6_bidder_43 (by decide) (fun c_7 => absurd c_7 (by decide)) (fun c_7 => ?_)
    refine lv_aload_n hx hb dX6_bidder_46 rfl (lv_at hl 0 rfl) ?_
    refine x_get M hK hw 0 0 rfl rfl ff_X6_13 rfl dX6_bidder_47 ?_
    refine lv_iload_n hx hb dX6_bidder_50 rfl (lv_at hl 1 rfl) ?_
    refine x_cSI (As := [.int (nI j)]) (k_X6_at l G Y j) cw_X6_49 [] M hK hZ hw hl.1 rfl (by decide) ⟨by decide, by decide⟩ ⟨Nat.zero_le _, Nat.zero_le _⟩ rfl rfl (Nat.le_of_ble_eq_true rfl) dX6_bidder_51 (fun r sg h_8 H locs hw => ?_)
    obtain ⟨rfl, rfl⟩ := h_8
    have hw : xW G A s.heap [[(mo, .inr (5, [.int (nI 0), .ref tx, .int (nI sz), .ref nw, .ref tr, .ref dy, .int (nI ac), .ref kp, .ref ik, .ref td, .ref ch, .int (nI sp), .int (nI ou)]))], [(nw, .inl (Y 0, 140, .inl (rowF ρ)))]] H locs := hw
    refine lv_iload_n hx hb dX6_bidder_54 rfl (lv_at hl 2 rfl) ?_
    refine x_iadd M (n := 14 + 21 * j) dX6_bidder_55 (by omega) ?_
    refine x_iald M hK hw 1 0 rfl rfl (by omega) (by decide) dX6_bidder_56 ?_
    refine x_topN (n := ρ (14 + 21 * j)) rfl ?_
    have q_9 : ρ (14 + 21 * j) ≤ 99 := hI.rgt (j := j) (by omega) (by omega)
    refine lv_goto (tgt := 104) hx hb dX6_bidder_57 (by decide) ?_
    exact hret _ _ _ (nI (ρ (14 + 21 * j))) _ _ dX6_bidder_104 hw rfl rfl ⟨rfl, rfl⟩
  · refine lv_iload_n hx hb dX6_bidder_41 rfl (lv_at hl 2 rfl) ?_
    refine lv_iconst (v := (nI 2)) hx hb dX6_bidder_42 (by decide) ?_
    refine x_cge M (tgt := 60) (by decide) (by decide) dX6_bidder_43 (by decide) (fun c_10 => absurd c_10 (by decide)) (fun c_10 => ?_)
    refine lv_aload_n hx hb dX6_bidder_46 rfl (lv_at hl 0 rfl) ?_
    refine x_get M hK hw 0 0 rfl rfl ff_X6_13 rfl dX6_bidder_47 ?_
    refine lv_iload_n hx hb dX6_bidder_50 rfl (lv_at hl 1 rfl) ?_
    refine x_cSI (As := [.int (nI j)]) (k_X6_at l G Y j) cw_X6_49 [] M hK hZ hw hl.1 rfl (by decide) ⟨by decide, by decide⟩ ⟨Nat.zero_le _, Nat.zero_le _⟩ rfl rfl (Nat.le_of_ble_eq_true rfl) dX6_bidder_51 (fun r sg h_11 H locs hw => ?_)
    obtain ⟨rfl, rfl⟩ := h_11
    have hw : xW G A s.heap [[(mo, .inr (5, [.int (nI 0), .ref tx, .int (nI sz), .ref nw, .ref tr, .ref dy, .int (nI ac), .ref kp, .ref ik, .ref td, .ref ch, .int (nI sp), .int (nI ou)]))], [(nw, .inl (Y 0, 140, .inl (rowF ρ)))]] H locs := hw
    refine lv_iload_n hx hb dX6_bidder_54 rfl (lv_at hl 2 rfl) ?_
    refine x_iadd M (n := 15 + 21 * j) dX6_bidder_55 (by omega) ?_
    refine x_iald M hK hw 1 0 rfl rfl (by omega) (by decide) dX6_bidder_56 ?_
    refine x_topN (n := ρ (15 + 21 * j)) rfl ?_
    have q_12 : 1 ≤ ρ (15 + 21 * j) := (hI.cap (j := j) (by omega) (by omega)).1
    have q_13 : ρ (15 + 21 * j) ≤ 9 := (hI.cap (j := j) (by omega) (by omega)).2
    refine lv_goto (tgt := 104) hx hb dX6_bidder_57 (by decide) ?_
    exact hret _ _ _ (nI (ρ (15 + 21 * j))) _ _ dX6_bidder_104 hw rfl rfl ⟨rfl, rfl⟩
  · refine lv_iload_n hx hb dX6_bidder_41 rfl (lv_at hl 2 rfl) ?_
    refine lv_iconst (v := (nI 2)) hx hb dX6_bidder_42 (by decide) ?_
    refine x_cge M (tgt := 60) (by decide) (by decide) dX6_bidder_43 (by decide) (fun c_14 => ?_) (fun c_14 => absurd c_14 (by decide))
    refine lv_iload_n hx hb dX6_bidder_60 rfl (lv_at hl 2 rfl) ?_
    refine lv_iconst (v := (nI 2)) hx hb dX6_bidder_61 (by decide) ?_
    refine x_cne M (tgt := 76) (by decide) (by decide) dX6_bidder_62 (by decide) (fun c_15 => absurd c_15 (by decide)) (fun c_15 => ?_)
    refine lv_aload_n hx hb dX6_bidder_65 rfl (lv_at hl 0 rfl) ?_
    refine x_get M hK hw 0 0 rfl rfl ff_X6_13 rfl dX6_bidder_66 ?_
    refine lv_iload_n hx hb dX6_bidder_69 rfl (lv_at hl 1 rfl) ?_
    refine x_cSI (As := [.ref nw, .int (nI j)]) (k_X6_activity l G Y nw j ρ (hI) (by omega)) cw_X6_67 [1] M hK hZ hw hl.1 rfl (by decide) ⟨by decide, by decide⟩ ⟨Nat.zero_le _, Nat.zero_le _⟩ rfl rfl (Nat.le_of_ble_eq_true rfl) dX6_bidder_70 (fun r sg h_16 H locs hw => ?_)
    obtain ⟨rfl, rfl⟩ := h_16
    have hw : xW G A s.heap [[(mo, .inr (5, [.int (nI 0), .ref tx, .int (nI sz), .ref nw, .ref tr, .ref dy, .int (nI ac), .ref kp, .ref ik, .ref td, .ref ch, .int (nI sp), .int (nI ou)]))], [(nw, .inl (Y 0, 140, .inl (rowF ρ)))]] H locs := hw
    have q_17 : act ρ j ≤ 243 := act_le hI (by omega)
    refine lv_goto (tgt := 104) hx hb dX6_bidder_73 (by decide) ?_
    exact hret _ _ _ (nI (act ρ j)) _ _ dX6_bidder_104 hw rfl rfl ⟨rfl, rfl⟩
  · refine lv_iload_n hx hb dX6_bidder_41 rfl (lv_at hl 2 rfl) ?_
    refine lv_iconst (v := (nI 2)) hx hb dX6_bidder_42 (by decide) ?_
    refine x_cge M (tgt := 60) (by decide) (by decide) dX6_bidder_43 (by decide) (fun c_18 => ?_) (fun c_18 => absurd c_18 (by decide))
    refine lv_iload_n hx hb dX6_bidder_60 rfl (lv_at hl 2 rfl) ?_
    refine lv_iconst (v := (nI 2)) hx hb dX6_bidder_61 (by decide) ?_
    refine x_cne M (tgt := 76) (by decide) (by decide) dX6_bidder_62 (by decide) (fun c_19 => ?_) (fun c_19 => absurd c_19 (by decide))
    refine lv_iload_n hx hb dX6_bidder_76 rfl (lv_at hl 2 rfl) ?_
    refine lv_iconst (v := (nI 3)) hx hb dX6_bidder_77 (by decide) ?_
    refine x_cne M (tgt := 96) (by decide) (by decide) dX6_bidder_78 (by decide) (fun c_20 => absurd c_20 (by decide)) (fun c_20 => ?_)
    refine lv_aload_n hx hb dX6_bidder_81 rfl (lv_at hl 0 rfl) ?_
    refine x_get M hK hw 0 0 rfl rfl ff_X6_13 rfl dX6_bidder_82 ?_
    refine lv_iload_n hx hb dX6_bidder_85 rfl (lv_at hl 1 rfl) ?_
    refine x_cSI (As := [.int (nI j)]) (k_X6_at l G Y j) cw_X6_49 [] M hK hZ hw hl.1 rfl (by decide) ⟨by decide, by decide⟩ ⟨Nat.zero_le _, Nat.zero_le _⟩ rfl rfl (Nat.le_of_ble_eq_true rfl) dX6_bidder_86 (fun r sg h_21 H locs hw => ?_)
    obtain ⟨rfl, rfl⟩ := h_21
    have hw : xW G A s.heap [[(mo, .inr (5, [.int (nI 0), .ref tx, .int (nI sz), .ref nw, .ref tr, .ref dy, .int (nI ac), .ref kp, .ref ik, .ref td, .ref ch, .int (nI sp), .int (nI ou)]))], [(nw, .inl (Y 0, 140, .inl (rowF ρ)))]] H locs := hw
    refine lv_bipush (v := (nI 8)) hx hb dX6_bidder_89 (by decide) ?_
    refine x_iadd M (n := 22 + 21 * j) dX6_bidder_91 (by omega) ?_
    refine x_iald M hK hw 1 0 rfl rfl (by omega) (by decide) dX6_bidder_92 ?_
    refine x_topN (n := ρ (22 + 21 * j)) rfl ?_
    have q_22 : ρ (22 + 21 * j) ≤ 3 := hI.pck (j := j) (by omega) (by omega)
    refine lv_goto (tgt := 104) hx hb dX6_bidder_93 (by decide) ?_
    exact hret _ _ _ (nI (ρ (22 + 21 * j))) _ _ dX6_bidder_104 hw rfl rfl ⟨rfl, rfl⟩
  · refine lv_iload_n hx hb dX6_bidder_41 rfl (lv_at hl 2 rfl) ?_
    refine lv_iconst (v := (nI 2)) hx hb dX6_bidder_42 (by decide) ?_
    refine x_cge M (tgt := 60) (by decide) (by decide) dX6_bidder_43 (by decide) (fun c_23 => ?_) (fun c_23 => absurd c_23 (by decide))
    refine lv_iload_n hx hb dX6_bidder_60 rfl (lv_at hl 2 rfl) ?_
    refine lv_iconst (v := (nI 2)) hx hb dX6_bidder_61 (by decide) ?_
    refine x_cne M (tgt := 76) (by decide) (by decide) dX6_bidder_62 (by decide) (fun c_24 => ?_) (fun c_24 => absurd c_24 (by decide))
    refine lv_iload_n hx hb dX6_bidder_76 rfl (lv_at hl 2 rfl) ?_
    refine lv_iconst (v := (nI 3)) hx hb dX6_bidder_77 (by decide) ?_
    refine x_cne M (tgt := 96) (by decide) (by decide) dX6_bidder_78 (by decide) (fun c_25 => ?_) (fun c_25 => absurd c_25 (by decide))
    refine lv_aload_n hx hb dX6_bidder_96 rfl (lv_at hl 0 rfl) ?_
    refine x_get M hK hw 0 0 rfl rfl ff_X6_13 rfl dX6_bidder_97 ?_
    refine lv_iload_n hx hb dX6_bidder_100 rfl (lv_at hl 1 rfl) ?_
    refine x_cSI (As := [.ref nw, .int (nI j)]) (k_X6_profit l G Y nw j ρ (hI) (by omega)) cw_X6_64 [1] M hK hZ hw hl.1 rfl (by decide) ⟨by decide, by decide⟩ ⟨Nat.zero_le _, Nat.zero_le _⟩ rfl rfl (Nat.le_of_ble_eq_true rfl) dX6_bidder_101 (fun r sg h_26 H locs hw => ?_)
    obtain ⟨rfl, rfl⟩ := h_26
    have hw : xW G A s.heap [[(mo, .inr (5, [.int (nI 0), .ref tx, .int (nI sz), .ref nw, .ref tr, .ref dy, .int (nI ac), .ref kp, .ref ik, .ref td, .ref ch, .int (nI sp), .int (nI ou)]))], [(nw, .inl (Y 0, 140, .inl (rowF ρ)))]] H locs := hw
    exact hret _ _ _ (prof ρ j) _ _ dX6_bidder_104 hw rfl rfl ⟨rfl, rfl⟩
set_option maxHeartbeats 4000000 in
set_option maxRecDepth 20000 in
theorem f_X6_bidder_1 (l : Launch) (G : va_G) (Y : Nat → Nat) (mo rf tx sz nw tr dy ac kp ik td ch sp ou : Nat) (ρ : Nat → Nat) (b w : Int32) (hI : Inv ρ) (hk : inZ b.toInt 0 ((ρ 4 : Int) - 1) = false) : CtI l yX6_bidder cX6_bidder 3 .int 2 46 [.ref mo, .int b, .int w] [[(mo, .inr (5, [.int (nI rf), .ref tx, .int (nI sz), .ref nw, .ref tr, .ref dy, .int (nI ac), .ref kp, .ref ik, .ref td, .ref ch, .int (nI sp), .int (nI ou)]))], [(nw, .inl (Y 0, 140, .inl (rowF ρ)))]] (fun r sg => r = nI 0 ∧ sg = [[(mo, .inr (5, [.int (nI 1), .ref tx, .int (nI sz), .ref nw, .ref tr, .ref dy, .int (nI ac), .ref kp, .ref ik, .ref td, .ref ch, .int (nI sp), .int (nI ou)]))], [(nw, .inl (Y 0, 140, .inl (rowF ρ)))]]) G Y := by
  refine x_ofI (by decide) (Nat.le_of_ble_eq_true rfl) (fun p e s m args below meth c A ls Q M hK hZ hw hl hret => ?_)
  obtain ⟨hx, hb, -⟩ := id M
  have hl : lv_has ls 3 [(0, .ref mo), (1, .int b), (2, .int w)] := hl
  have := hI.n6
  have := hI.over
  have := hI.keep
  have := hI.stepp
  refine lv_aload_n hx hb dX6_bidder_0 rfl (lv_at hl 0 rfl) ?_
  refine lv_aload_n hx hb dX6_bidder_1 rfl (lv_at hl 0 rfl) ?_
  refine x_get M hK hw 0 0 rfl rfl ff_X6_13 rfl dX6_bidder_2 ?_
  refine lv_iload_n hx hb dX6_bidder_5 rfl (lv_at hl 1 rfl) ?_
  refine x_cSI (As := [.ref nw, .int b]) (k_X6_isBidder l G Y nw ρ b (hI)) cw_X6_79 [1] M hK hZ hw hl.1 rfl (by decide) ⟨by decide, by decide⟩ ⟨Nat.zero_le _, Nat.zero_le _⟩ rfl rfl (Nat.le_of_ble_eq_true rfl) dX6_bidder_6 (fun r sg h_1 H locs hw => ?_)
  obtain ⟨rfl, rfl⟩ := h_1
  have hw : xW G A s.heap [[(mo, .inr (5, [.int (nI rf), .ref tx, .int (nI sz), .ref nw, .ref tr, .ref dy, .int (nI ac), .ref kp, .ref ik, .ref td, .ref ch, .int (nI sp), .int (nI ou)]))], [(nw, .inl (Y 0, 140, .inl (rowF ρ)))]] H locs := hw
  refine x_bne M (tgt := 16) dX6_bidder_9 (by decide) (fun c_2 => absurd c_2 (fun z => by have h9 := z; rw [hk] at h9; exact absurd h9 (by decide))) (fun c_2 => ?_)
  refine lv_iconst (v := (nI 1)) hx hb dX6_bidder_12 (by decide) ?_
  refine lv_goto (tgt := 33) hx hb dX6_bidder_13 (by decide) ?_
  refine x_cVI (As := [.int (nI 1)]) (k_X6_refused l G Y mo rf tx sz nw tr dy ac kp ik td ch sp ou 1 (by omega)) cw_X6_103 [0] 0 0 M hK hZ hw hl.1 rfl (by decide) rfl rfl rfl ⟨by decide, by decide⟩ ⟨Nat.zero_le _, Nat.zero_le _⟩ rfl rfl (Nat.le_of_ble_eq_true rfl) dX6_bidder_33 (fun r sg h_3 H locs hw => ?_)
  obtain ⟨rfl, rfl⟩ := h_3
  have hw : xW G A s.heap [[(mo, .inr (5, [.int (nI 1), .ref tx, .int (nI sz), .ref nw, .ref tr, .ref dy, .int (nI ac), .ref kp, .ref ik, .ref td, .ref ch, .int (nI sp), .int (nI ou)]))], [(nw, .inl (Y 0, 140, .inl (rowF ρ)))]] H locs := hw
  refine x_beq M (tgt := 41) dX6_bidder_36 (by decide) (fun c_4 => absurd c_4 (fun z => by first | exact absurd z (by decide) | (have := of_decide_eq_true z; omega) | (have := of_decide_eq_false z; omega))) (fun c_4 => ?_)
  refine lv_iconst (v := (nI 0)) hx hb dX6_bidder_39 (by decide) ?_
  exact hret _ _ _ (nI 0) _ _ dX6_bidder_40 hw rfl rfl ⟨rfl, rfl⟩
set_option maxHeartbeats 4000000 in
set_option maxRecDepth 20000 in
theorem f_X6_bidder_2 (l : Launch) (G : va_G) (Y : Nat → Nat) (mo rf tx sz nw tr dy ac kp ik td ch sp ou : Nat) (ρ : Nat → Nat) (j : Nat) (w : Int32) (hI : Inv ρ) (hj : j < ρ 4) (hk : inZ w.toInt 0 4 = false) : CtI l yX6_bidder cX6_bidder 3 .int 2 46 [.ref mo, .int (nI j), .int w] [[(mo, .inr (5, [.int (nI rf), .ref tx, .int (nI sz), .ref nw, .ref tr, .ref dy, .int (nI ac), .ref kp, .ref ik, .ref td, .ref ch, .int (nI sp), .int (nI ou)]))], [(nw, .inl (Y 0, 140, .inl (rowF ρ)))]] (fun r sg => r = nI 0 ∧ sg = [[(mo, .inr (5, [.int (nI 2), .ref tx, .int (nI sz), .ref nw, .ref tr, .ref dy, .int (nI ac), .ref kp, .ref ik, .ref td, .ref ch, .int (nI sp), .int (nI ou)]))], [(nw, .inl (Y 0, 140, .inl (rowF ρ)))]]) G Y := by
  refine x_ofI (by decide) (Nat.le_of_ble_eq_true rfl) (fun p e s m args below meth c A ls Q M hK hZ hw hl hret => ?_)
  obtain ⟨hx, hb, -⟩ := id M
  have hl : lv_has ls 3 [(0, .ref mo), (1, .int (nI j)), (2, .int w)] := hl
  have := hI.n6
  have := hI.over
  have := hI.keep
  have := hI.stepp
  refine lv_aload_n hx hb dX6_bidder_0 rfl (lv_at hl 0 rfl) ?_
  refine lv_aload_n hx hb dX6_bidder_1 rfl (lv_at hl 0 rfl) ?_
  refine x_get M hK hw 0 0 rfl rfl ff_X6_13 rfl dX6_bidder_2 ?_
  refine lv_iload_n hx hb dX6_bidder_5 rfl (lv_at hl 1 rfl) ?_
  refine x_cSI (As := [.ref nw, .int (nI j)]) (k_X6_isBidder l G Y nw ρ (nI j) (hI)) cw_X6_79 [1] M hK hZ hw hl.1 rfl (by decide) ⟨by decide, by decide⟩ ⟨Nat.zero_le _, Nat.zero_le _⟩ rfl rfl (Nat.le_of_ble_eq_true rfl) dX6_bidder_6 (fun r sg h_1 H locs hw => ?_)
  obtain ⟨rfl, rfl⟩ := h_1
  have hw : xW G A s.heap [[(mo, .inr (5, [.int (nI rf), .ref tx, .int (nI sz), .ref nw, .ref tr, .ref dy, .int (nI ac), .ref kp, .ref ik, .ref td, .ref ch, .int (nI sp), .int (nI ou)]))], [(nw, .inl (Y 0, 140, .inl (rowF ρ)))]] H locs := hw
  refine x_bne M (tgt := 16) dX6_bidder_9 (by decide) (fun c_2 => ?_) (fun c_2 => absurd c_2 (fun z => pzF z (by omega) ⟨by omega, by omega⟩))
  refine lv_iload_n hx hb dX6_bidder_16 rfl (lv_at hl 2 rfl) ?_
  refine lv_i2l (v := w.toInt64) hx hb dX6_bidder_17 rfl ?_
  refine lv_lconst (v := 0) hx hb dX6_bidder_18 (by decide) ?_
  refine lv_ldc2 (v := 4) hx hb M.2.2.2.1 (M.2.2.2.2 _ mw_1162) dX6_bidder_19 ?_
  refine x_cSI (As := [.long w.toInt64, .long 0, .long 4]) (k_X6_in l G Y w.toInt64 0 4) cw_X6_45 [] M hK hZ hw hl.1 rfl (by decide) ⟨by decide, by decide⟩ ⟨Nat.zero_le _, Nat.zero_le _⟩ rfl rfl (Nat.le_of_ble_eq_true rfl) dX6_bidder_22 (fun r sg h_3 H locs hw => ?_)
  obtain ⟨rfl, rfl⟩ := h_3
  have hw : xW G A s.heap [[(mo, .inr (5, [.int (nI rf), .ref tx, .int (nI sz), .ref nw, .ref tr, .ref dy, .int (nI ac), .ref kp, .ref ik, .ref td, .ref ch, .int (nI sp), .int (nI ou)]))], [(nw, .inl (Y 0, 140, .inl (rowF ρ)))]] H locs := hw
  refine x_topI (y := b2i (inZ w.toInt 0 4)) (by rw [Int32.toInt_toInt64]; rfl) ?_
  refine x_beq M (tgt := 32) dX6_bidder_25 (by decide) (fun c_4 => ?_) (fun c_4 => absurd c_4 (fun z => by have h9 := z; rw [hk] at h9; exact absurd h9 (by decide)))
  refine lv_iconst (v := (nI 2)) hx hb dX6_bidder_32 (by decide) ?_
  refine x_cVI (As := [.int (nI 2)]) (k_X6_refused l G Y mo rf tx sz nw tr dy ac kp ik td ch sp ou 2 (by omega)) cw_X6_103 [0] 0 0 M hK hZ hw hl.1 rfl (by decide) rfl rfl rfl ⟨by decide, by decide⟩ ⟨Nat.zero_le _, Nat.zero_le _⟩ rfl rfl (Nat.le_of_ble_eq_true rfl) dX6_bidder_33 (fun r sg h_5 H locs hw => ?_)
  obtain ⟨rfl, rfl⟩ := h_5
  have hw : xW G A s.heap [[(mo, .inr (5, [.int (nI 2), .ref tx, .int (nI sz), .ref nw, .ref tr, .ref dy, .int (nI ac), .ref kp, .ref ik, .ref td, .ref ch, .int (nI sp), .int (nI ou)]))], [(nw, .inl (Y 0, 140, .inl (rowF ρ)))]] H locs := hw
  refine x_beq M (tgt := 41) dX6_bidder_36 (by decide) (fun c_6 => absurd c_6 (fun z => by first | exact absurd z (by decide) | (have := of_decide_eq_true z; omega) | (have := of_decide_eq_false z; omega))) (fun c_6 => ?_)
  refine lv_iconst (v := (nI 0)) hx hb dX6_bidder_39 (by decide) ?_
  exact hret _ _ _ (nI 0) _ _ dX6_bidder_40 hw rfl rfl ⟨rfl, rfl⟩
set_option maxHeartbeats 4000000 in
set_option maxRecDepth 20000 in
theorem k_X6_demand (l : Launch) (G : va_G) (Y : Nat → Nat) (mo rf tx sz nw tr dy ac kp ik td ch sp ou : Nat) (ρ : Nat → Nat) (j k : Nat) (hI : Inv ρ) (hj : j < ρ 4) (hk : k < 3) : CtI l yX6_demand cX6_demand 3 .int 2 46 [.ref mo, .int (nI j), .int (nI k)] [[(mo, .inr (5, [.int (nI rf), .ref tx, .int (nI sz), .ref nw, .ref tr, .ref dy, .int (nI ac), .ref kp, .ref ik, .ref td, .ref ch, .int (nI sp), .int (nI ou)]))], [(nw, .inl (Y 0, 140, .inl (rowF ρ)))]] (fun r sg => r = nI (ρ (19 + 21 * j + k)) ∧ sg = [[(mo, .inr (5, [.int (nI 0), .ref tx, .int (nI sz), .ref nw, .ref tr, .ref dy, .int (nI ac), .ref kp, .ref ik, .ref td, .ref ch, .int (nI sp), .int (nI ou)]))], [(nw, .inl (Y 0, 140, .inl (rowF ρ)))]]) G Y := by
  refine x_ofI (by decide) (Nat.le_of_ble_eq_true rfl) (fun p e s m args below meth c A ls Q M hK hZ hw hl hret => ?_)
  obtain ⟨hx, hb, -⟩ := id M
  have hl : lv_has ls 3 [(0, .ref mo), (1, .int (nI j)), (2, .int (nI k))] := hl
  have := hI.n6
  have := hI.over
  have := hI.keep
  have := hI.stepp
  refine lv_aload_n hx hb dX6_demand_0 rfl (lv_at hl 0 rfl) ?_
  refine lv_aload_n hx hb dX6_demand_1 rfl (lv_at hl 0 rfl) ?_
  refine x_get M hK hw 0 0 rfl rfl ff_X6_13 rfl dX6_demand_2 ?_
  refine lv_iload_n hx hb dX6_demand_5 rfl (lv_at hl 1 rfl) ?_
  refine x_cSI (As := [.ref nw, .int (nI j)]) (k_X6_isBidder l G Y nw ρ (nI j) (hI)) cw_X6_79 [1] M hK hZ hw hl.1 rfl (by decide) ⟨by decide, by decide⟩ ⟨Nat.zero_le _, Nat.zero_le _⟩ rfl rfl (Nat.le_of_ble_eq_true rfl) dX6_demand_6 (fun r sg h_1 H locs hw => ?_)
  obtain ⟨rfl, rfl⟩ := h_1
  have hw : xW G A s.heap [[(mo, .inr (5, [.int (nI rf), .ref tx, .int (nI sz), .ref nw, .ref tr, .ref dy, .int (nI ac), .ref kp, .ref ik, .ref td, .ref ch, .int (nI sp), .int (nI ou)]))], [(nw, .inl (Y 0, 140, .inl (rowF ρ)))]] H locs := hw
  refine x_beq M (tgt := 23) dX6_demand_9 (by decide) (fun c_2 => absurd c_2 (fun z => pzF z (by omega) ⟨by omega, by omega⟩)) (fun c_2 => ?_)
  refine lv_iload_n hx hb dX6_demand_12 rfl (lv_at hl 2 rfl) ?_
  refine x_cSI (As := [.int (nI k)]) (k_X6_isKind l G Y (nI k)) cw_X6_83 [] M hK hZ hw hl.1 rfl (by decide) ⟨by decide, by decide⟩ ⟨Nat.zero_le _, Nat.zero_le _⟩ rfl rfl (Nat.le_of_ble_eq_true rfl) dX6_demand_13 (fun r sg h_3 H locs hw => ?_)
  obtain ⟨rfl, rfl⟩ := h_3
  have hw : xW G A s.heap [[(mo, .inr (5, [.int (nI rf), .ref tx, .int (nI sz), .ref nw, .ref tr, .ref dy, .int (nI ac), .ref kp, .ref ik, .ref td, .ref ch, .int (nI sp), .int (nI ou)]))], [(nw, .inl (Y 0, 140, .inl (rowF ρ)))]] H locs := hw
  refine x_beq M (tgt := 23) dX6_demand_16 (by decide) (fun c_4 => absurd c_4 (fun z => pzF z (by omega) ⟨by omega, by omega⟩)) (fun c_4 => ?_)
  refine lv_iconst (v := (nI 0)) hx hb dX6_demand_19 (by decide) ?_
  refine lv_goto (tgt := 24) hx hb dX6_demand_20 (by decide) ?_
  refine x_cVI (As := [.int (nI 0)]) (k_X6_refused l G Y mo rf tx sz nw tr dy ac kp ik td ch sp ou 0 (by omega)) cw_X6_103 [0] 0 0 M hK hZ hw hl.1 rfl (by decide) rfl rfl rfl ⟨by decide, by decide⟩ ⟨Nat.zero_le _, Nat.zero_le _⟩ rfl rfl (Nat.le_of_ble_eq_true rfl) dX6_demand_24 (fun r sg h_5 H locs hw => ?_)
  obtain ⟨rfl, rfl⟩ := h_5
  have hw : xW G A s.heap [[(mo, .inr (5, [.int (nI 0), .ref tx, .int (nI sz), .ref nw, .ref tr, .ref dy, .int (nI ac), .ref kp, .ref ik, .ref td, .ref ch, .int (nI sp), .int (nI ou)]))], [(nw, .inl (Y 0, 140, .inl (rowF ρ)))]] H locs := hw
  refine x_beq M (tgt := 32) dX6_demand_27 (by decide) (fun c_6 => ?_) (fun c_6 => absurd c_6 (fun z => by first | exact absurd z (by decide) | (have := of_decide_eq_true z; omega) | (have := of_decide_eq_false z; omega)))
  refine lv_aload_n hx hb dX6_demand_32 rfl (lv_at hl 0 rfl) ?_
  refine x_get M hK hw 0 0 rfl rfl ff_X6_13 rfl dX6_demand_33 ?_
  refine lv_iload_n hx hb dX6_demand_36 rfl (lv_at hl 1 rfl) ?_
  refine x_cSI (As := [.int (nI j)]) (k_X6_at l G Y j) cw_X6_49 [] M hK hZ hw hl.1 rfl (by decide) ⟨by decide, by decide⟩ ⟨Nat.zero_le _, Nat.zero_le _⟩ rfl rfl (Nat.le_of_ble_eq_true rfl) dX6_demand_37 (fun r sg h_7 H locs hw => ?_)
  obtain ⟨rfl, rfl⟩ := h_7
  have hw : xW G A s.heap [[(mo, .inr (5, [.int (nI 0), .ref tx, .int (nI sz), .ref nw, .ref tr, .ref dy, .int (nI ac), .ref kp, .ref ik, .ref td, .ref ch, .int (nI sp), .int (nI ou)]))], [(nw, .inl (Y 0, 140, .inl (rowF ρ)))]] H locs := hw
  refine lv_iconst (v := (nI 5)) hx hb dX6_demand_40 (by decide) ?_
  refine x_iadd M (n := 19 + 21 * j) dX6_demand_41 (by omega) ?_
  refine lv_iload_n hx hb dX6_demand_42 rfl (lv_at hl 2 rfl) ?_
  refine x_iadd M (n := 19 + 21 * j + k) dX6_demand_43 rfl ?_
  refine x_iald M hK hw 1 0 rfl rfl (by omega) (by decide) dX6_demand_44 ?_
  refine x_topN (n := ρ (19 + 21 * j + k)) rfl ?_
  have q_8 : ρ (19 + 21 * j + k) ≤ 9 := hI.dem (j := j) (by omega) (k := k) (by omega) (by omega)
  exact hret _ _ _ (nI (ρ (19 + 21 * j + k))) _ _ dX6_demand_45 hw rfl rfl ⟨rfl, rfl⟩
set_option maxHeartbeats 4000000 in
set_option maxRecDepth 20000 in
theorem f_X6_demand_1 (l : Launch) (G : va_G) (Y : Nat → Nat) (mo rf tx sz nw tr dy ac kp ik td ch sp ou : Nat) (ρ : Nat → Nat) (b k : Int32) (hI : Inv ρ) (hk : inZ b.toInt 0 ((ρ 4 : Int) - 1) = false) : CtI l yX6_demand cX6_demand 3 .int 2 46 [.ref mo, .int b, .int k] [[(mo, .inr (5, [.int (nI rf), .ref tx, .int (nI sz), .ref nw, .ref tr, .ref dy, .int (nI ac), .ref kp, .ref ik, .ref td, .ref ch, .int (nI sp), .int (nI ou)]))], [(nw, .inl (Y 0, 140, .inl (rowF ρ)))]] (fun r sg => r = nI 0 ∧ sg = [[(mo, .inr (5, [.int (nI 1), .ref tx, .int (nI sz), .ref nw, .ref tr, .ref dy, .int (nI ac), .ref kp, .ref ik, .ref td, .ref ch, .int (nI sp), .int (nI ou)]))], [(nw, .inl (Y 0, 140, .inl (rowF ρ)))]]) G Y := by
  refine x_ofI (by decide) (Nat.le_of_ble_eq_true rfl) (fun p e s m args below meth c A ls Q M hK hZ hw hl hret => ?_)
  obtain ⟨hx, hb, -⟩ := id M
  have hl : lv_has ls 3 [(0, .ref mo), (1, .int b), (2, .int k)] := hl
  have := hI.n6
  have := hI.over
  have := hI.keep
  have := hI.stepp
  refine lv_aload_n hx hb dX6_demand_0 rfl (lv_at hl 0 rfl) ?_
  refine lv_aload_n hx hb dX6_demand_1 rfl (lv_at hl 0 rfl) ?_
  refine x_get M hK hw 0 0 rfl rfl ff_X6_13 rfl dX6_demand_2 ?_
  refine lv_iload_n hx hb dX6_demand_5 rfl (lv_at hl 1 rfl) ?_
  refine x_cSI (As := [.ref nw, .int b]) (k_X6_isBidder l G Y nw ρ b (hI)) cw_X6_79 [1] M hK hZ hw hl.1 rfl (by decide) ⟨by decide, by decide⟩ ⟨Nat.zero_le _, Nat.zero_le _⟩ rfl rfl (Nat.le_of_ble_eq_true rfl) dX6_demand_6 (fun r sg h_1 H locs hw => ?_)
  obtain ⟨rfl, rfl⟩ := h_1
  have hw : xW G A s.heap [[(mo, .inr (5, [.int (nI rf), .ref tx, .int (nI sz), .ref nw, .ref tr, .ref dy, .int (nI ac), .ref kp, .ref ik, .ref td, .ref ch, .int (nI sp), .int (nI ou)]))], [(nw, .inl (Y 0, 140, .inl (rowF ρ)))]] H locs := hw
  refine x_beq M (tgt := 23) dX6_demand_9 (by decide) (fun c_2 => ?_) (fun c_2 => absurd c_2 (fun z => by have h9 := z; rw [hk] at h9; exact absurd h9 (by decide)))
  refine lv_iconst (v := (nI 1)) hx hb dX6_demand_23 (by decide) ?_
  refine x_cVI (As := [.int (nI 1)]) (k_X6_refused l G Y mo rf tx sz nw tr dy ac kp ik td ch sp ou 1 (by omega)) cw_X6_103 [0] 0 0 M hK hZ hw hl.1 rfl (by decide) rfl rfl rfl ⟨by decide, by decide⟩ ⟨Nat.zero_le _, Nat.zero_le _⟩ rfl rfl (Nat.le_of_ble_eq_true rfl) dX6_demand_24 (fun r sg h_3 H locs hw => ?_)
  obtain ⟨rfl, rfl⟩ := h_3
  have hw : xW G A s.heap [[(mo, .inr (5, [.int (nI 1), .ref tx, .int (nI sz), .ref nw, .ref tr, .ref dy, .int (nI ac), .ref kp, .ref ik, .ref td, .ref ch, .int (nI sp), .int (nI ou)]))], [(nw, .inl (Y 0, 140, .inl (rowF ρ)))]] H locs := hw
  refine x_beq M (tgt := 32) dX6_demand_27 (by decide) (fun c_4 => absurd c_4 (fun z => by first | exact absurd z (by decide) | (have := of_decide_eq_true z; omega) | (have := of_decide_eq_false z; omega))) (fun c_4 => ?_)
  refine lv_iconst (v := (nI 0)) hx hb dX6_demand_30 (by decide) ?_
  exact hret _ _ _ (nI 0) _ _ dX6_demand_31 hw rfl rfl ⟨rfl, rfl⟩
set_option maxHeartbeats 4000000 in
set_option maxRecDepth 20000 in
theorem f_X6_demand_2 (l : Launch) (G : va_G) (Y : Nat → Nat) (mo rf tx sz nw tr dy ac kp ik td ch sp ou : Nat) (ρ : Nat → Nat) (j : Nat) (k : Int32) (hI : Inv ρ) (hj : j < ρ 4) (hk : inZ k.toInt 0 2 = false) : CtI l yX6_demand cX6_demand 3 .int 2 46 [.ref mo, .int (nI j), .int k] [[(mo, .inr (5, [.int (nI rf), .ref tx, .int (nI sz), .ref nw, .ref tr, .ref dy, .int (nI ac), .ref kp, .ref ik, .ref td, .ref ch, .int (nI sp), .int (nI ou)]))], [(nw, .inl (Y 0, 140, .inl (rowF ρ)))]] (fun r sg => r = nI 0 ∧ sg = [[(mo, .inr (5, [.int (nI 1), .ref tx, .int (nI sz), .ref nw, .ref tr, .ref dy, .int (nI ac), .ref kp, .ref ik, .ref td, .ref ch, .int (nI sp), .int (nI ou)]))], [(nw, .inl (Y 0, 140, .inl (rowF ρ)))]]) G Y := by
  refine x_ofI (by decide) (Nat.le_of_ble_eq_true rfl) (fun p e s m args below meth c A ls Q M hK hZ hw hl hret => ?_)
  obtain ⟨hx, hb, -⟩ := id M
  have hl : lv_has ls 3 [(0, .ref mo), (1, .int (nI j)), (2, .int k)] := hl
  have := hI.n6
  have := hI.over
  have := hI.keep
  have := hI.stepp
  refine lv_aload_n hx hb dX6_demand_0 rfl (lv_at hl 0 rfl) ?_
  refine lv_aload_n hx hb dX6_demand_1 rfl (lv_at hl 0 rfl) ?_
  refine x_get M hK hw 0 0 rfl rfl ff_X6_13 rfl dX6_demand_2 ?_
  refine lv_iload_n hx hb dX6_demand_5 rfl (lv_at hl 1 rfl) ?_
  refine x_cSI (As := [.ref nw, .int (nI j)]) (k_X6_isBidder l G Y nw ρ (nI j) (hI)) cw_X6_79 [1] M hK hZ hw hl.1 rfl (by decide) ⟨by decide, by decide⟩ ⟨Nat.zero_le _, Nat.zero_le _⟩ rfl rfl (Nat.le_of_ble_eq_true rfl) dX6_demand_6 (fun r sg h_1 H locs hw => ?_)
  obtain ⟨rfl, rfl⟩ := h_1
  have hw : xW G A s.heap [[(mo, .inr (5, [.int (nI rf), .ref tx, .int (nI sz), .ref nw, .ref tr, .ref dy, .int (nI ac), .ref kp, .ref ik, .ref td, .ref ch, .int (nI sp), .int (nI ou)]))], [(nw, .inl (Y 0, 140, .inl (rowF ρ)))]] H locs := hw
  refine x_beq M (tgt := 23) dX6_demand_9 (by decide) (fun c_2 => absurd c_2 (fun z => pzF z (by omega) ⟨by omega, by omega⟩)) (fun c_2 => ?_)
  refine lv_iload_n hx hb dX6_demand_12 rfl (lv_at hl 2 rfl) ?_
  refine x_cSI (As := [.int k]) (k_X6_isKind l G Y k) cw_X6_83 [] M hK hZ hw hl.1 rfl (by decide) ⟨by decide, by decide⟩ ⟨Nat.zero_le _, Nat.zero_le _⟩ rfl rfl (Nat.le_of_ble_eq_true rfl) dX6_demand_13 (fun r sg h_3 H locs hw => ?_)
  obtain ⟨rfl, rfl⟩ := h_3
  have hw : xW G A s.heap [[(mo, .inr (5, [.int (nI rf), .ref tx, .int (nI sz), .ref nw, .ref tr, .ref dy, .int (nI ac), .ref kp, .ref ik, .ref td, .ref ch, .int (nI sp), .int (nI ou)]))], [(nw, .inl (Y 0, 140, .inl (rowF ρ)))]] H locs := hw
  refine x_beq M (tgt := 23) dX6_demand_16 (by decide) (fun c_4 => ?_) (fun c_4 => absurd c_4 (fun z => by have h9 := z; rw [hk] at h9; exact absurd h9 (by decide)))
  refine lv_iconst (v := (nI 1)) hx hb dX6_demand_23 (by decide) ?_
  refine x_cVI (As := [.int (nI 1)]) (k_X6_refused l G Y mo rf tx sz nw tr dy ac kp ik td ch sp ou 1 (by omega)) cw_X6_103 [0] 0 0 M hK hZ hw hl.1 rfl (by decide) rfl rfl rfl ⟨by decide, by decide⟩ ⟨Nat.zero_le _, Nat.zero_le _⟩ rfl rfl (Nat.le_of_ble_eq_true rfl) dX6_demand_24 (fun r sg h_5 H locs hw => ?_)
  obtain ⟨rfl, rfl⟩ := h_5
  have hw : xW G A s.heap [[(mo, .inr (5, [.int (nI 1), .ref tx, .int (nI sz), .ref nw, .ref tr, .ref dy, .int (nI ac), .ref kp, .ref ik, .ref td, .ref ch, .int (nI sp), .int (nI ou)]))], [(nw, .inl (Y 0, 140, .inl (rowF ρ)))]] H locs := hw
  refine x_beq M (tgt := 32) dX6_demand_27 (by decide) (fun c_6 => absurd c_6 (fun z => by first | exact absurd z (by decide) | (have := of_decide_eq_true z; omega) | (have := of_decide_eq_false z; omega))) (fun c_6 => ?_)
  refine lv_iconst (v := (nI 0)) hx hb dX6_demand_30 (by decide) ?_
  exact hret _ _ _ (nI 0) _ _ dX6_demand_31 hw rfl rfl ⟨rfl, rfl⟩
set_option maxHeartbeats 4000000 in
set_option maxRecDepth 20000 in
theorem k_X6_pack (l : Launch) (G : va_G) (Y : Nat → Nat) (mo rf tx sz nw tr dy ac kp ik td ch sp ou : Nat) (ρ : Nat → Nat) (j i w : Nat) (hI : Inv ρ) (hj : j < ρ 4) (hi : i ≤ ρ (22 + 21 * j)) (hw4 : w < 4) : CtI l yX6_pack cX6_pack 4 .int 2 46 [.ref mo, .int (nI j), .int (nI i), .int (nI w)] [[(mo, .inr (5, [.int (nI rf), .ref tx, .int (nI sz), .ref nw, .ref tr, .ref dy, .int (nI ac), .ref kp, .ref ik, .ref td, .ref ch, .int (nI sp), .int (nI ou)]))], [(nw, .inl (Y 0, 140, .inl (rowF ρ)))]] (fun r sg => r = nI (pckV ρ j i w) ∧ sg = [[(mo, .inr (5, [.int (nI 0), .ref tx, .int (nI sz), .ref nw, .ref tr, .ref dy, .int (nI ac), .ref kp, .ref ik, .ref td, .ref ch, .int (nI sp), .int (nI ou)]))], [(nw, .inl (Y 0, 140, .inl (rowF ρ)))]]) G Y := by
  refine x_ofI (by decide) (Nat.le_of_ble_eq_true rfl) (fun p e s m args below meth c A ls Q M hK hZ hw hl hret => ?_)
  obtain ⟨hx, hb, -⟩ := id M
  have hl : lv_has ls 4 [(0, .ref mo), (1, .int (nI j)), (2, .int (nI i)), (3, .int (nI w))] := hl
  have := hI.n6
  have := hI.over
  have := hI.keep
  have := hI.stepp
  have hpk := hI.pck (j := j) hj rfl
  refine lv_aload_n hx hb dX6_pack_0 rfl (lv_at hl 0 rfl) ?_
  refine lv_aload_n hx hb dX6_pack_1 rfl (lv_at hl 0 rfl) ?_
  refine x_get M hK hw 0 0 rfl rfl ff_X6_13 rfl dX6_pack_2 ?_
  refine lv_iload_n hx hb dX6_pack_5 rfl (lv_at hl 1 rfl) ?_
  refine x_cSI (As := [.ref nw, .int (nI j)]) (k_X6_isBidder l G Y nw ρ (nI j) (hI)) cw_X6_79 [1] M hK hZ hw hl.1 rfl (by decide) ⟨by decide, by decide⟩ ⟨Nat.zero_le _, Nat.zero_le _⟩ rfl rfl (Nat.le_of_ble_eq_true rfl) dX6_pack_6 (fun r sg h_1 H locs hw => ?_)
  obtain ⟨rfl, rfl⟩ := h_1
  have hw : xW G A s.heap [[(mo, .inr (5, [.int (nI rf), .ref tx, .int (nI sz), .ref nw, .ref tr, .ref dy, .int (nI ac), .ref kp, .ref ik, .ref td, .ref ch, .int (nI sp), .int (nI ou)]))], [(nw, .inl (Y 0, 140, .inl (rowF ρ)))]] H locs := hw
  refine x_beq M (tgt := 34) dX6_pack_9 (by decide) (fun c_2 => absurd c_2 (fun z => pzF z (by omega) ⟨by omega, by omega⟩)) (fun c_2 => ?_)
  refine lv_iload_n hx hb dX6_pack_12 rfl (lv_at hl 2 rfl) ?_
  refine lv_i2l (v := (nI i).toInt64) hx hb dX6_pack_13 rfl ?_
  refine lv_lconst (v := 0) hx hb dX6_pack_14 (by decide) ?_
  refine lv_aload_n hx hb dX6_pack_15 rfl (lv_at hl 0 rfl) ?_
  refine x_get M hK hw 0 0 rfl rfl ff_X6_13 rfl dX6_pack_16 ?_
  refine lv_iload_n hx hb dX6_pack_19 rfl (lv_at hl 1 rfl) ?_
  refine x_cSI (As := [.int (nI j)]) (k_X6_at l G Y j) cw_X6_49 [] M hK hZ hw hl.1 rfl (by decide) ⟨by decide, by decide⟩ ⟨Nat.zero_le _, Nat.zero_le _⟩ rfl rfl (Nat.le_of_ble_eq_true rfl) dX6_pack_20 (fun r sg h_3 H locs hw => ?_)
  obtain ⟨rfl, rfl⟩ := h_3
  have hw : xW G A s.heap [[(mo, .inr (5, [.int (nI rf), .ref tx, .int (nI sz), .ref nw, .ref tr, .ref dy, .int (nI ac), .ref kp, .ref ik, .ref td, .ref ch, .int (nI sp), .int (nI ou)]))], [(nw, .inl (Y 0, 140, .inl (rowF ρ)))]] H locs := hw
  refine lv_bipush (v := (nI 8)) hx hb dX6_pack_23 (by decide) ?_
  refine x_iadd M (n := 22 + 21 * j) dX6_pack_25 (by omega) ?_
  refine x_iald M hK hw 1 0 rfl rfl (by omega) (by decide) dX6_pack_26 ?_
  refine x_topN (n := ρ (22 + 21 * j)) rfl ?_
  have q_4 : ρ (22 + 21 * j) ≤ 3 := hI.pck (j := j) (by omega) (by omega)
  refine lv_i2l (v := (nI (ρ (22 + 21 * j))).toInt64) hx hb dX6_pack_27 rfl ?_
  refine x_cSI (As := [.long ((nI i).toInt64), .long 0, .long ((nI (ρ (22 + 21 * j))).toInt64)]) (k_X6_in l G Y ((nI i).toInt64) 0 ((nI (ρ (22 + 21 * j))).toInt64)) cw_X6_45 [] M hK hZ hw hl.1 rfl (by decide) ⟨by decide, by decide⟩ ⟨Nat.zero_le _, Nat.zero_le _⟩ rfl rfl (Nat.le_of_ble_eq_true rfl) dX6_pack_28 (fun r sg h_5 H locs hw => ?_)
  obtain ⟨rfl, rfl⟩ := h_5
  have hw : xW G A s.heap [[(mo, .inr (5, [.int (nI rf), .ref tx, .int (nI sz), .ref nw, .ref tr, .ref dy, .int (nI ac), .ref kp, .ref ik, .ref td, .ref ch, .int (nI sp), .int (nI ou)]))], [(nw, .inl (Y 0, 140, .inl (rowF ρ)))]] H locs := hw
  refine x_topI (y := b2i (inZ (nI i).toInt 0 (ρ (22 + 21 * j) : Int))) (by rw [Int32.toInt_toInt64, Int32.toInt_toInt64, nI_toInt (n := ρ (22 + 21 * j)) (by omega)]; rfl) ?_
  refine x_bne M (tgt := 38) dX6_pack_31 (by decide) (fun c_6 => ?_) (fun c_6 => absurd c_6 (fun z => pzF z (by omega) ⟨by omega, by omega⟩))
  refine lv_iload_n hx hb dX6_pack_38 rfl (lv_at hl 3 rfl) ?_
  refine lv_i2l (v := (nI w).toInt64) hx hb dX6_pack_39 rfl ?_
  refine lv_lconst (v := 0) hx hb dX6_pack_40 (by decide) ?_
  refine lv_ldc2 (v := 3) hx hb M.2.2.2.1 (M.2.2.2.2 _ mw_1157) dX6_pack_41 ?_
  refine x_cSI (As := [.long ((nI w).toInt64), .long 0, .long 3]) (k_X6_in l G Y ((nI w).toInt64) 0 3) cw_X6_45 [] M hK hZ hw hl.1 rfl (by decide) ⟨by decide, by decide⟩ ⟨Nat.zero_le _, Nat.zero_le _⟩ rfl rfl (Nat.le_of_ble_eq_true rfl) dX6_pack_44 (fun r sg h_7 H locs hw => ?_)
  obtain ⟨rfl, rfl⟩ := h_7
  have hw : xW G A s.heap [[(mo, .inr (5, [.int (nI rf), .ref tx, .int (nI sz), .ref nw, .ref tr, .ref dy, .int (nI ac), .ref kp, .ref ik, .ref td, .ref ch, .int (nI sp), .int (nI ou)]))], [(nw, .inl (Y 0, 140, .inl (rowF ρ)))]] H locs := hw
  refine x_topI (y := b2i (inZ (nI w).toInt 0 3)) (by rw [Int32.toInt_toInt64]; rfl) ?_
  refine x_beq M (tgt := 54) dX6_pack_47 (by decide) (fun c_8 => absurd c_8 (fun z => pzF z (by omega) ⟨by omega, by omega⟩)) (fun c_8 => ?_)
  refine lv_iconst (v := (nI 0)) hx hb dX6_pack_50 (by decide) ?_
  refine lv_goto (tgt := 55) hx hb dX6_pack_51 (by decide) ?_
  refine x_cVI (As := [.int (nI 0)]) (k_X6_refused l G Y mo rf tx sz nw tr dy ac kp ik td ch sp ou 0 (by omega)) cw_X6_103 [0] 0 0 M hK hZ hw hl.1 rfl (by decide) rfl rfl rfl ⟨by decide, by decide⟩ ⟨Nat.zero_le _, Nat.zero_le _⟩ rfl rfl (Nat.le_of_ble_eq_true rfl) dX6_pack_55 (fun r sg h_9 H locs hw => ?_)
  obtain ⟨rfl, rfl⟩ := h_9
  have hw : xW G A s.heap [[(mo, .inr (5, [.int (nI 0), .ref tx, .int (nI sz), .ref nw, .ref tr, .ref dy, .int (nI ac), .ref kp, .ref ik, .ref td, .ref ch, .int (nI sp), .int (nI ou)]))], [(nw, .inl (Y 0, 140, .inl (rowF ρ)))]] H locs := hw
  refine x_beq M (tgt := 63) dX6_pack_58 (by decide) (fun c_10 => ?_) (fun c_10 => absurd c_10 (fun z => by first | exact absurd z (by decide) | (have := of_decide_eq_true z; omega) | (have := of_decide_eq_false z; omega)))
  rcases (show w = 3 ∨ w < 3 by omega) with rfl | hw3
  · refine lv_aload_n hx hb dX6_pack_63 rfl (lv_at hl 0 rfl) ?_
    refine x_get M hK hw 0 0 rfl rfl ff_X6_13 rfl dX6_pack_64 ?_
    refine lv_iload_n hx hb dX6_pack_67 rfl (lv_at hl 1 rfl) ?_
    refine lv_iload_n hx hb dX6_pack_68 rfl (lv_at hl 2 rfl) ?_
    refine lv_iload_n hx hb dX6_pack_69 rfl (lv_at hl 3 rfl) ?_
    refine x_cSI (As := [.ref nw, .int (nI j), .int (nI i), .int (nI 3)]) (k_X6_packOf3 l G Y nw j i ρ (hI) (by omega) (by omega)) cw_X6_91 [1] M hK hZ hw hl.1 rfl (by decide) ⟨by decide, by decide⟩ ⟨Nat.zero_le _, Nat.zero_le _⟩ rfl rfl (Nat.le_of_ble_eq_true rfl) dX6_pack_70 (fun r sg h_11 H locs hw => ?_)
    obtain ⟨rfl, rfl⟩ := h_11
    have hw : xW G A s.heap [[(mo, .inr (5, [.int (nI 0), .ref tx, .int (nI sz), .ref nw, .ref tr, .ref dy, .int (nI ac), .ref kp, .ref ik, .ref td, .ref ch, .int (nI sp), .int (nI ou)]))], [(nw, .inl (Y 0, 140, .inl (rowF ρ)))]] H locs := hw
    have q_12 : worOf ρ j i ≤ 2699973 := worOf_le hI (by omega) (by omega)
    exact hret _ _ _ (nI (worOf ρ j i)) _ _ dX6_pack_73 hw rfl rfl ⟨by unfold pckV; rw [if_pos rfl], rfl⟩
  · refine lv_aload_n hx hb dX6_pack_63 rfl (lv_at hl 0 rfl) ?_
    refine x_get M hK hw 0 0 rfl rfl ff_X6_13 rfl dX6_pack_64 ?_
    refine lv_iload_n hx hb dX6_pack_67 rfl (lv_at hl 1 rfl) ?_
    refine lv_iload_n hx hb dX6_pack_68 rfl (lv_at hl 2 rfl) ?_
    refine lv_iload_n hx hb dX6_pack_69 rfl (lv_at hl 3 rfl) ?_
    refine x_cSI (As := [.ref nw, .int (nI j), .int (nI i), .int (nI w)]) (k_X6_packOf l G Y nw j i w ρ (hI) (by omega) (by omega) (by omega)) cw_X6_91 [1] M hK hZ hw hl.1 rfl (by decide) ⟨by decide, by decide⟩ ⟨Nat.zero_le _, Nat.zero_le _⟩ rfl rfl (Nat.le_of_ble_eq_true rfl) dX6_pack_70 (fun r sg h_13 H locs hw => ?_)
    obtain ⟨rfl, rfl⟩ := h_13
    have hw : xW G A s.heap [[(mo, .inr (5, [.int (nI 0), .ref tx, .int (nI sz), .ref nw, .ref tr, .ref dy, .int (nI ac), .ref kp, .ref ik, .ref td, .ref ch, .int (nI sp), .int (nI ou)]))], [(nw, .inl (Y 0, 140, .inl (rowF ρ)))]] H locs := hw
    have q_14 : lotOf ρ j i w ≤ 9 := lotOf_le hI (by omega) (by omega) (by omega)
    exact hret _ _ _ (nI (lotOf ρ j i w)) _ _ dX6_pack_73 hw rfl rfl ⟨by unfold pckV; rw [if_neg (by omega)], rfl⟩
set_option maxHeartbeats 4000000 in
set_option maxRecDepth 20000 in
theorem f_X6_pack_1 (l : Launch) (G : va_G) (Y : Nat → Nat) (mo rf tx sz nw tr dy ac kp ik td ch sp ou : Nat) (ρ : Nat → Nat) (b i w : Int32) (hI : Inv ρ) (hk : inZ b.toInt 0 ((ρ 4 : Int) - 1) = false) : CtI l yX6_pack cX6_pack 4 .int 2 46 [.ref mo, .int b, .int i, .int w] [[(mo, .inr (5, [.int (nI rf), .ref tx, .int (nI sz), .ref nw, .ref tr, .ref dy, .int (nI ac), .ref kp, .ref ik, .ref td, .ref ch, .int (nI sp), .int (nI ou)]))], [(nw, .inl (Y 0, 140, .inl (rowF ρ)))]] (fun r sg => r = nI 0 ∧ sg = [[(mo, .inr (5, [.int (nI 1), .ref tx, .int (nI sz), .ref nw, .ref tr, .ref dy, .int (nI ac), .ref kp, .ref ik, .ref td, .ref ch, .int (nI sp), .int (nI ou)]))], [(nw, .inl (Y 0, 140, .inl (rowF ρ)))]]) G Y := by
  refine x_ofI (by decide) (Nat.le_of_ble_eq_true rfl) (fun p e s m args below meth c A ls Q M hK hZ hw hl hret => ?_)
  obtain ⟨hx, hb, -⟩ := id M
  have hl : lv_has ls 4 [(0, .ref mo), (1, .int b), (2, .int i), (3, .int w)] := hl
  have := hI.n6
  have := hI.over
  have := hI.keep
  have := hI.stepp
  refine lv_aload_n hx hb dX6_pack_0 rfl (lv_at hl 0 rfl) ?_
  refine lv_aload_n hx hb dX6_pack_1 rfl (lv_at hl 0 rfl) ?_
  refine x_get M hK hw 0 0 rfl rfl ff_X6_13 rfl dX6_pack_2 ?_
  refine lv_iload_n hx hb dX6_pack_5 rfl (lv_at hl 1 rfl) ?_
  refine x_cSI (As := [.ref nw, .int b]) (k_X6_isBidder l G Y nw ρ b (hI)) cw_X6_79 [1] M hK hZ hw hl.1 rfl (by decide) ⟨by decide, by decide⟩ ⟨Nat.zero_le _, Nat.zero_le _⟩ rfl rfl (Nat.le_of_ble_eq_true rfl) dX6_pack_6 (fun r sg h_1 H locs hw => ?_)
  obtain ⟨rfl, rfl⟩ := h_1
  have hw : xW G A s.heap [[(mo, .inr (5, [.int (nI rf), .ref tx, .int (nI sz), .ref nw, .ref tr, .ref dy, .int (nI ac), .ref kp, .ref ik, .ref td, .ref ch, .int (nI sp), .int (nI ou)]))], [(nw, .inl (Y 0, 140, .inl (rowF ρ)))]] H locs := hw
  refine x_beq M (tgt := 34) dX6_pack_9 (by decide) (fun c_2 => ?_) (fun c_2 => absurd c_2 (fun z => by have h9 := z; rw [hk] at h9; exact absurd h9 (by decide)))
  refine lv_iconst (v := (nI 1)) hx hb dX6_pack_34 (by decide) ?_
  refine lv_goto (tgt := 55) hx hb dX6_pack_35 (by decide) ?_
  refine x_cVI (As := [.int (nI 1)]) (k_X6_refused l G Y mo rf tx sz nw tr dy ac kp ik td ch sp ou 1 (by omega)) cw_X6_103 [0] 0 0 M hK hZ hw hl.1 rfl (by decide) rfl rfl rfl ⟨by decide, by decide⟩ ⟨Nat.zero_le _, Nat.zero_le _⟩ rfl rfl (Nat.le_of_ble_eq_true rfl) dX6_pack_55 (fun r sg h_3 H locs hw => ?_)
  obtain ⟨rfl, rfl⟩ := h_3
  have hw : xW G A s.heap [[(mo, .inr (5, [.int (nI 1), .ref tx, .int (nI sz), .ref nw, .ref tr, .ref dy, .int (nI ac), .ref kp, .ref ik, .ref td, .ref ch, .int (nI sp), .int (nI ou)]))], [(nw, .inl (Y 0, 140, .inl (rowF ρ)))]] H locs := hw
  refine x_beq M (tgt := 63) dX6_pack_58 (by decide) (fun c_4 => absurd c_4 (fun z => by first | exact absurd z (by decide) | (have := of_decide_eq_true z; omega) | (have := of_decide_eq_false z; omega))) (fun c_4 => ?_)
  refine lv_iconst (v := (nI 0)) hx hb dX6_pack_61 (by decide) ?_
  exact hret _ _ _ (nI 0) _ _ dX6_pack_62 hw rfl rfl ⟨rfl, rfl⟩
set_option maxHeartbeats 4000000 in
set_option maxRecDepth 20000 in
theorem f_X6_pack_2 (l : Launch) (G : va_G) (Y : Nat → Nat) (mo rf tx sz nw tr dy ac kp ik td ch sp ou : Nat) (ρ : Nat → Nat) (j : Nat) (i w : Int32) (hI : Inv ρ) (hj : j < ρ 4) (hk : inZ i.toInt 0 (ρ (22 + 21 * j) : Int) = false) : CtI l yX6_pack cX6_pack 4 .int 2 46 [.ref mo, .int (nI j), .int i, .int w] [[(mo, .inr (5, [.int (nI rf), .ref tx, .int (nI sz), .ref nw, .ref tr, .ref dy, .int (nI ac), .ref kp, .ref ik, .ref td, .ref ch, .int (nI sp), .int (nI ou)]))], [(nw, .inl (Y 0, 140, .inl (rowF ρ)))]] (fun r sg => r = nI 0 ∧ sg = [[(mo, .inr (5, [.int (nI 1), .ref tx, .int (nI sz), .ref nw, .ref tr, .ref dy, .int (nI ac), .ref kp, .ref ik, .ref td, .ref ch, .int (nI sp), .int (nI ou)]))], [(nw, .inl (Y 0, 140, .inl (rowF ρ)))]]) G Y := by
  refine x_ofI (by decide) (Nat.le_of_ble_eq_true rfl) (fun p e s m args below meth c A ls Q M hK hZ hw hl hret => ?_)
  obtain ⟨hx, hb, -⟩ := id M
  have hl : lv_has ls 4 [(0, .ref mo), (1, .int (nI j)), (2, .int i), (3, .int w)] := hl
  have := hI.n6
  have := hI.over
  have := hI.keep
  have := hI.stepp
  have hpk := hI.pck (j := j) hj rfl
  refine lv_aload_n hx hb dX6_pack_0 rfl (lv_at hl 0 rfl) ?_
  refine lv_aload_n hx hb dX6_pack_1 rfl (lv_at hl 0 rfl) ?_
  refine x_get M hK hw 0 0 rfl rfl ff_X6_13 rfl dX6_pack_2 ?_
  refine lv_iload_n hx hb dX6_pack_5 rfl (lv_at hl 1 rfl) ?_
  refine x_cSI (As := [.ref nw, .int (nI j)]) (k_X6_isBidder l G Y nw ρ (nI j) (hI)) cw_X6_79 [1] M hK hZ hw hl.1 rfl (by decide) ⟨by decide, by decide⟩ ⟨Nat.zero_le _, Nat.zero_le _⟩ rfl rfl (Nat.le_of_ble_eq_true rfl) dX6_pack_6 (fun r sg h_1 H locs hw => ?_)
  obtain ⟨rfl, rfl⟩ := h_1
  have hw : xW G A s.heap [[(mo, .inr (5, [.int (nI rf), .ref tx, .int (nI sz), .ref nw, .ref tr, .ref dy, .int (nI ac), .ref kp, .ref ik, .ref td, .ref ch, .int (nI sp), .int (nI ou)]))], [(nw, .inl (Y 0, 140, .inl (rowF ρ)))]] H locs := hw
  refine x_beq M (tgt := 34) dX6_pack_9 (by decide) (fun c_2 => absurd c_2 (fun z => pzF z (by omega) ⟨by omega, by omega⟩)) (fun c_2 => ?_)
  refine lv_iload_n hx hb dX6_pack_12 rfl (lv_at hl 2 rfl) ?_
  refine lv_i2l (v := i.toInt64) hx hb dX6_pack_13 rfl ?_
  refine lv_lconst (v := 0) hx hb dX6_pack_14 (by decide) ?_
  refine lv_aload_n hx hb dX6_pack_15 rfl (lv_at hl 0 rfl) ?_
  refine x_get M hK hw 0 0 rfl rfl ff_X6_13 rfl dX6_pack_16 ?_
  refine lv_iload_n hx hb dX6_pack_19 rfl (lv_at hl 1 rfl) ?_
  refine x_cSI (As := [.int (nI j)]) (k_X6_at l G Y j) cw_X6_49 [] M hK hZ hw hl.1 rfl (by decide) ⟨by decide, by decide⟩ ⟨Nat.zero_le _, Nat.zero_le _⟩ rfl rfl (Nat.le_of_ble_eq_true rfl) dX6_pack_20 (fun r sg h_3 H locs hw => ?_)
  obtain ⟨rfl, rfl⟩ := h_3
  have hw : xW G A s.heap [[(mo, .inr (5, [.int (nI rf), .ref tx, .int (nI sz), .ref nw, .ref tr, .ref dy, .int (nI ac), .ref kp, .ref ik, .ref td, .ref ch, .int (nI sp), .int (nI ou)]))], [(nw, .inl (Y 0, 140, .inl (rowF ρ)))]] H locs := hw
  refine lv_bipush (v := (nI 8)) hx hb dX6_pack_23 (by decide) ?_
  refine x_iadd M (n := 22 + 21 * j) dX6_pack_25 (by omega) ?_
  refine x_iald M hK hw 1 0 rfl rfl (by omega) (by decide) dX6_pack_26 ?_
  refine x_topN (n := ρ (22 + 21 * j)) rfl ?_
  have q_4 : ρ (22 + 21 * j) ≤ 3 := hI.pck (j := j) (by omega) (by omega)
  refine lv_i2l (v := (nI (ρ (22 + 21 * j))).toInt64) hx hb dX6_pack_27 rfl ?_
  refine x_cSI (As := [.long i.toInt64, .long 0, .long ((nI (ρ (22 + 21 * j))).toInt64)]) (k_X6_in l G Y i.toInt64 0 ((nI (ρ (22 + 21 * j))).toInt64)) cw_X6_45 [] M hK hZ hw hl.1 rfl (by decide) ⟨by decide, by decide⟩ ⟨Nat.zero_le _, Nat.zero_le _⟩ rfl rfl (Nat.le_of_ble_eq_true rfl) dX6_pack_28 (fun r sg h_5 H locs hw => ?_)
  obtain ⟨rfl, rfl⟩ := h_5
  have hw : xW G A s.heap [[(mo, .inr (5, [.int (nI rf), .ref tx, .int (nI sz), .ref nw, .ref tr, .ref dy, .int (nI ac), .ref kp, .ref ik, .ref td, .ref ch, .int (nI sp), .int (nI ou)]))], [(nw, .inl (Y 0, 140, .inl (rowF ρ)))]] H locs := hw
  refine x_topI (y := b2i (inZ i.toInt 0 (ρ (22 + 21 * j) : Int))) (by rw [Int32.toInt_toInt64, Int32.toInt_toInt64, nI_toInt (n := ρ (22 + 21 * j)) (by omega)]; rfl) ?_
  refine x_bne M (tgt := 38) dX6_pack_31 (by decide) (fun c_6 => absurd c_6 (fun z => by have h9 := z; rw [hk] at h9; exact absurd h9 (by decide))) (fun c_6 => ?_)
  refine lv_iconst (v := (nI 1)) hx hb dX6_pack_34 (by decide) ?_
  refine lv_goto (tgt := 55) hx hb dX6_pack_35 (by decide) ?_
  refine x_cVI (As := [.int (nI 1)]) (k_X6_refused l G Y mo rf tx sz nw tr dy ac kp ik td ch sp ou 1 (by omega)) cw_X6_103 [0] 0 0 M hK hZ hw hl.1 rfl (by decide) rfl rfl rfl ⟨by decide, by decide⟩ ⟨Nat.zero_le _, Nat.zero_le _⟩ rfl rfl (Nat.le_of_ble_eq_true rfl) dX6_pack_55 (fun r sg h_7 H locs hw => ?_)
  obtain ⟨rfl, rfl⟩ := h_7
  have hw : xW G A s.heap [[(mo, .inr (5, [.int (nI 1), .ref tx, .int (nI sz), .ref nw, .ref tr, .ref dy, .int (nI ac), .ref kp, .ref ik, .ref td, .ref ch, .int (nI sp), .int (nI ou)]))], [(nw, .inl (Y 0, 140, .inl (rowF ρ)))]] H locs := hw
  refine x_beq M (tgt := 63) dX6_pack_58 (by decide) (fun c_8 => absurd c_8 (fun z => by first | exact absurd z (by decide) | (have := of_decide_eq_true z; omega) | (have := of_decide_eq_false z; omega))) (fun c_8 => ?_)
  refine lv_iconst (v := (nI 0)) hx hb dX6_pack_61 (by decide) ?_
  exact hret _ _ _ (nI 0) _ _ dX6_pack_62 hw rfl rfl ⟨rfl, rfl⟩
set_option maxHeartbeats 4000000 in
set_option maxRecDepth 20000 in
theorem f_X6_pack_3 (l : Launch) (G : va_G) (Y : Nat → Nat) (mo rf tx sz nw tr dy ac kp ik td ch sp ou : Nat) (ρ : Nat → Nat) (j i : Nat) (w : Int32) (hI : Inv ρ) (hj : j < ρ 4) (hi : i ≤ ρ (22 + 21 * j)) (hk : inZ w.toInt 0 3 = false) : CtI l yX6_pack cX6_pack 4 .int 2 46 [.ref mo, .int (nI j), .int (nI i), .int w] [[(mo, .inr (5, [.int (nI rf), .ref tx, .int (nI sz), .ref nw, .ref tr, .ref dy, .int (nI ac), .ref kp, .ref ik, .ref td, .ref ch, .int (nI sp), .int (nI ou)]))], [(nw, .inl (Y 0, 140, .inl (rowF ρ)))]] (fun r sg => r = nI 0 ∧ sg = [[(mo, .inr (5, [.int (nI 2), .ref tx, .int (nI sz), .ref nw, .ref tr, .ref dy, .int (nI ac), .ref kp, .ref ik, .ref td, .ref ch, .int (nI sp), .int (nI ou)]))], [(nw, .inl (Y 0, 140, .inl (rowF ρ)))]]) G Y := by
  refine x_ofI (by decide) (Nat.le_of_ble_eq_true rfl) (fun p e s m args below meth c A ls Q M hK hZ hw hl hret => ?_)
  obtain ⟨hx, hb, -⟩ := id M
  have hl : lv_has ls 4 [(0, .ref mo), (1, .int (nI j)), (2, .int (nI i)), (3, .int w)] := hl
  have := hI.n6
  have := hI.over
  have := hI.keep
  have := hI.stepp
  have hpk := hI.pck (j := j) hj rfl
  refine lv_aload_n hx hb dX6_pack_0 rfl (lv_at hl 0 rfl) ?_
  refine lv_aload_n hx hb dX6_pack_1 rfl (lv_at hl 0 rfl) ?_
  refine x_get M hK hw 0 0 rfl rfl ff_X6_13 rfl dX6_pack_2 ?_
  refine lv_iload_n hx hb dX6_pack_5 rfl (lv_at hl 1 rfl) ?_
  refine x_cSI (As := [.ref nw, .int (nI j)]) (k_X6_isBidder l G Y nw ρ (nI j) (hI)) cw_X6_79 [1] M hK hZ hw hl.1 rfl (by decide) ⟨by decide, by decide⟩ ⟨Nat.zero_le _, Nat.zero_le _⟩ rfl rfl (Nat.le_of_ble_eq_true rfl) dX6_pack_6 (fun r sg h_1 H locs hw => ?_)
  obtain ⟨rfl, rfl⟩ := h_1
  have hw : xW G A s.heap [[(mo, .inr (5, [.int (nI rf), .ref tx, .int (nI sz), .ref nw, .ref tr, .ref dy, .int (nI ac), .ref kp, .ref ik, .ref td, .ref ch, .int (nI sp), .int (nI ou)]))], [(nw, .inl (Y 0, 140, .inl (rowF ρ)))]] H locs := hw
  refine x_beq M (tgt := 34) dX6_pack_9 (by decide) (fun c_2 => absurd c_2 (fun z => pzF z (by omega) ⟨by omega, by omega⟩)) (fun c_2 => ?_)
  refine lv_iload_n hx hb dX6_pack_12 rfl (lv_at hl 2 rfl) ?_
  refine lv_i2l (v := (nI i).toInt64) hx hb dX6_pack_13 rfl ?_
  refine lv_lconst (v := 0) hx hb dX6_pack_14 (by decide) ?_
  refine lv_aload_n hx hb dX6_pack_15 rfl (lv_at hl 0 rfl) ?_
  refine x_get M hK hw 0 0 rfl rfl ff_X6_13 rfl dX6_pack_16 ?_
  refine lv_iload_n hx hb dX6_pack_19 rfl (lv_at hl 1 rfl) ?_
  refine x_cSI (As := [.int (nI j)]) (k_X6_at l G Y j) cw_X6_49 [] M hK hZ hw hl.1 rfl (by decide) ⟨by decide, by decide⟩ ⟨Nat.zero_le _, Nat.zero_le _⟩ rfl rfl (Nat.le_of_ble_eq_true rfl) dX6_pack_20 (fun r sg h_3 H locs hw => ?_)
  obtain ⟨rfl, rfl⟩ := h_3
  have hw : xW G A s.heap [[(mo, .inr (5, [.int (nI rf), .ref tx, .int (nI sz), .ref nw, .ref tr, .ref dy, .int (nI ac), .ref kp, .ref ik, .ref td, .ref ch, .int (nI sp), .int (nI ou)]))], [(nw, .inl (Y 0, 140, .inl (rowF ρ)))]] H locs := hw
  refine lv_bipush (v := (nI 8)) hx hb dX6_pack_23 (by decide) ?_
  refine x_iadd M (n := 22 + 21 * j) dX6_pack_25 (by omega) ?_
  refine x_iald M hK hw 1 0 rfl rfl (by omega) (by decide) dX6_pack_26 ?_
  refine x_topN (n := ρ (22 + 21 * j)) rfl ?_
  have q_4 : ρ (22 + 21 * j) ≤ 3 := hI.pck (j := j) (by omega) (by omega)
  refine lv_i2l (v := (nI (ρ (22 + 21 * j))).toInt64) hx hb dX6_pack_27 rfl ?_
  refine x_cSI (As := [.long ((nI i).toInt64), .long 0, .long ((nI (ρ (22 + 21 * j))).toInt64)]) (k_X6_in l G Y ((nI i).toInt64) 0 ((nI (ρ (22 + 21 * j))).toInt64)) cw_X6_45 [] M hK hZ hw hl.1 rfl (by decide) ⟨by decide, by decide⟩ ⟨Nat.zero_le _, Nat.zero_le _⟩ rfl rfl (Nat.le_of_ble_eq_true rfl) dX6_pack_28 (fun r sg h_5 H locs hw => ?_)
  obtain ⟨rfl, rfl⟩ := h_5
  have hw : xW G A s.heap [[(mo, .inr (5, [.int (nI rf), .ref tx, .int (nI sz), .ref nw, .ref tr, .ref dy, .int (nI ac), .ref kp, .ref ik, .ref td, .ref ch, .int (nI sp), .int (nI ou)]))], [(nw, .inl (Y 0, 140, .inl (rowF ρ)))]] H locs := hw
  refine x_topI (y := b2i (inZ (nI i).toInt 0 (ρ (22 + 21 * j) : Int))) (by rw [Int32.toInt_toInt64, Int32.toInt_toInt64, nI_toInt (n := ρ (22 + 21 * j)) (by omega)]; rfl) ?_
  refine x_bne M (tgt := 38) dX6_pack_31 (by decide) (fun c_6 => ?_) (fun c_6 => absurd c_6 (fun z => pzF z (by omega) ⟨by omega, by omega⟩))
  refine lv_iload_n hx hb dX6_pack_38 rfl (lv_at hl 3 rfl) ?_
  refine lv_i2l (v := w.toInt64) hx hb dX6_pack_39 rfl ?_
  refine lv_lconst (v := 0) hx hb dX6_pack_40 (by decide) ?_
  refine lv_ldc2 (v := 3) hx hb M.2.2.2.1 (M.2.2.2.2 _ mw_1157) dX6_pack_41 ?_
  refine x_cSI (As := [.long w.toInt64, .long 0, .long 3]) (k_X6_in l G Y w.toInt64 0 3) cw_X6_45 [] M hK hZ hw hl.1 rfl (by decide) ⟨by decide, by decide⟩ ⟨Nat.zero_le _, Nat.zero_le _⟩ rfl rfl (Nat.le_of_ble_eq_true rfl) dX6_pack_44 (fun r sg h_7 H locs hw => ?_)
  obtain ⟨rfl, rfl⟩ := h_7
  have hw : xW G A s.heap [[(mo, .inr (5, [.int (nI rf), .ref tx, .int (nI sz), .ref nw, .ref tr, .ref dy, .int (nI ac), .ref kp, .ref ik, .ref td, .ref ch, .int (nI sp), .int (nI ou)]))], [(nw, .inl (Y 0, 140, .inl (rowF ρ)))]] H locs := hw
  refine x_topI (y := b2i (inZ w.toInt 0 3)) (by rw [Int32.toInt_toInt64]; rfl) ?_
  refine x_beq M (tgt := 54) dX6_pack_47 (by decide) (fun c_8 => ?_) (fun c_8 => absurd c_8 (fun z => by have h9 := z; rw [hk] at h9; exact absurd h9 (by decide)))
  refine lv_iconst (v := (nI 2)) hx hb dX6_pack_54 (by decide) ?_
  refine x_cVI (As := [.int (nI 2)]) (k_X6_refused l G Y mo rf tx sz nw tr dy ac kp ik td ch sp ou 2 (by omega)) cw_X6_103 [0] 0 0 M hK hZ hw hl.1 rfl (by decide) rfl rfl rfl ⟨by decide, by decide⟩ ⟨Nat.zero_le _, Nat.zero_le _⟩ rfl rfl (Nat.le_of_ble_eq_true rfl) dX6_pack_55 (fun r sg h_9 H locs hw => ?_)
  obtain ⟨rfl, rfl⟩ := h_9
  have hw : xW G A s.heap [[(mo, .inr (5, [.int (nI 2), .ref tx, .int (nI sz), .ref nw, .ref tr, .ref dy, .int (nI ac), .ref kp, .ref ik, .ref td, .ref ch, .int (nI sp), .int (nI ou)]))], [(nw, .inl (Y 0, 140, .inl (rowF ρ)))]] H locs := hw
  refine x_beq M (tgt := 63) dX6_pack_58 (by decide) (fun c_10 => absurd c_10 (fun z => by first | exact absurd z (by decide) | (have := of_decide_eq_true z; omega) | (have := of_decide_eq_false z; omega))) (fun c_10 => ?_)
  refine lv_iconst (v := (nI 0)) hx hb dX6_pack_61 (by decide) ?_
  exact hret _ _ _ (nI 0) _ _ dX6_pack_62 hw rfl rfl ⟨rfl, rfl⟩
set_option maxHeartbeats 4000000 in
set_option maxRecDepth 20000 in
theorem k_X6_setting (l : Launch) (G : va_G) (Y : Nat → Nat) (mo rf tx sz nw tr dy ac kp ik td ch sp ou : Nat) (ρ : Nat → Nat) (w : Nat) (hI : Inv ρ) (hw2 : w < 2) : CtI l yX6_setting cX6_setting 2 .int 1 25 [.ref mo, .int (nI w)] [[(mo, .inr (5, [.int (nI rf), .ref tx, .int (nI sz), .ref nw, .ref tr, .ref dy, .int (nI ac), .ref kp, .ref ik, .ref td, .ref ch, .int (nI sp), .int (nI ou)]))], [(nw, .inl (Y 0, 140, .inl (rowF ρ)))]] (fun r sg => r = nI (setOf ρ (w : Int)) ∧ sg = [[(mo, .inr (5, [.int (nI 0), .ref tx, .int (nI sz), .ref nw, .ref tr, .ref dy, .int (nI ac), .ref kp, .ref ik, .ref td, .ref ch, .int (nI sp), .int (nI ou)]))], [(nw, .inl (Y 0, 140, .inl (rowF ρ)))]]) G Y := by
  refine x_ofI (by decide) (Nat.le_of_ble_eq_true rfl) (fun p e s m args below meth c A ls Q M hK hZ hw hl hret => ?_)
  obtain ⟨hx, hb, -⟩ := id M
  have hl : lv_has ls 2 [(0, .ref mo), (1, .int (nI w))] := hl
  have := hI.n6
  have := hI.over
  have := hI.keep
  have := hI.stepp
  refine lv_aload_n hx hb dX6_setting_0 rfl (lv_at hl 0 rfl) ?_
  refine lv_iload_n hx hb dX6_setting_1 rfl (lv_at hl 1 rfl) ?_
  refine lv_i2l (v := (nI w).toInt64) hx hb dX6_setting_2 rfl ?_
  refine lv_lconst (v := 0) hx hb dX6_setting_3 (by decide) ?_
  refine lv_lconst (v := 1) hx hb dX6_setting_4 (by decide) ?_
  refine x_cSI (As := [.long ((nI w).toInt64), .long 0, .long 1]) (k_X6_in l G Y ((nI w).toInt64) 0 1) cw_X6_45 [] M hK hZ hw hl.1 rfl (by decide) ⟨by decide, by decide⟩ ⟨Nat.zero_le _, Nat.zero_le _⟩ rfl rfl (Nat.le_of_ble_eq_true rfl) dX6_setting_5 (fun r sg h_1 H locs hw => ?_)
  obtain ⟨rfl, rfl⟩ := h_1
  have hw : xW G A s.heap [[(mo, .inr (5, [.int (nI rf), .ref tx, .int (nI sz), .ref nw, .ref tr, .ref dy, .int (nI ac), .ref kp, .ref ik, .ref td, .ref ch, .int (nI sp), .int (nI ou)]))], [(nw, .inl (Y 0, 140, .inl (rowF ρ)))]] H locs := hw
  refine x_topI (y := b2i (inZ (nI w).toInt 0 1)) (by rw [Int32.toInt_toInt64]; rfl) ?_
  refine x_beq M (tgt := 15) dX6_setting_8 (by decide) (fun c_2 => absurd c_2 (fun z => pzF z (by omega) ⟨by omega, by omega⟩)) (fun c_2 => ?_)
  refine lv_iconst (v := (nI 0)) hx hb dX6_setting_11 (by decide) ?_
  refine lv_goto (tgt := 16) hx hb dX6_setting_12 (by decide) ?_
  refine x_cVI (As := [.int (nI 0)]) (k_X6_refused l G Y mo rf tx sz nw tr dy ac kp ik td ch sp ou 0 (by omega)) cw_X6_103 [0] 0 0 M hK hZ hw hl.1 rfl (by decide) rfl rfl rfl ⟨by decide, by decide⟩ ⟨Nat.zero_le _, Nat.zero_le _⟩ rfl rfl (Nat.le_of_ble_eq_true rfl) dX6_setting_16 (fun r sg h_3 H locs hw => ?_)
  obtain ⟨rfl, rfl⟩ := h_3
  have hw : xW G A s.heap [[(mo, .inr (5, [.int (nI 0), .ref tx, .int (nI sz), .ref nw, .ref tr, .ref dy, .int (nI ac), .ref kp, .ref ik, .ref td, .ref ch, .int (nI sp), .int (nI ou)]))], [(nw, .inl (Y 0, 140, .inl (rowF ρ)))]] H locs := hw
  refine x_beq M (tgt := 24) dX6_setting_19 (by decide) (fun c_4 => ?_) (fun c_4 => absurd c_4 (fun z => by first | exact absurd z (by decide) | (have := of_decide_eq_true z; omega) | (have := of_decide_eq_false z; omega)))
  rcases (show w = 0 ∨ w = 1 by omega) with rfl | rfl
  · refine lv_aload_n hx hb dX6_setting_24 rfl (lv_at hl 0 rfl) ?_
    refine x_get M hK hw 0 0 rfl rfl ff_X6_13 rfl dX6_setting_25 ?_
    refine lv_iconst (v := (nI 2)) hx hb dX6_setting_28 (by decide) ?_
    refine lv_iload_n hx hb dX6_setting_29 rfl (lv_at hl 1 rfl) ?_
    refine x_iadd M (n := 2) dX6_setting_30 rfl ?_
    refine x_iald M hK hw 1 0 rfl rfl (by decide) (by decide) dX6_setting_31 ?_
    refine x_topN (n := ρ 2) rfl ?_
    have q_5 : 50 ≤ ρ 2 := hI.keep.1
    have q_6 : ρ 2 ≤ 100 := hI.keep.2
    exact hret _ _ _ (nI (ρ 2)) _ _ dX6_setting_32 hw rfl rfl ⟨rfl, rfl⟩
  · refine lv_aload_n hx hb dX6_setting_24 rfl (lv_at hl 0 rfl) ?_
    refine x_get M hK hw 0 0 rfl rfl ff_X6_13 rfl dX6_setting_25 ?_
    refine lv_iconst (v := (nI 2)) hx hb dX6_setting_28 (by decide) ?_
    refine lv_iload_n hx hb dX6_setting_29 rfl (lv_at hl 1 rfl) ?_
    refine x_iadd M (n := 3) dX6_setting_30 rfl ?_
    refine x_iald M hK hw 1 0 rfl rfl (by decide) (by decide) dX6_setting_31 ?_
    refine x_topN (n := ρ 3) rfl ?_
    have q_7 : 1 ≤ ρ 3 := (hI.stepp).1
    have q_8 : ρ 3 ≤ 50 := (hI.stepp).2
    exact hret _ _ _ (nI (ρ 3)) _ _ dX6_setting_32 hw rfl rfl ⟨rfl, rfl⟩
set_option maxHeartbeats 4000000 in
set_option maxRecDepth 20000 in
theorem f_X6_setting (l : Launch) (G : va_G) (Y : Nat → Nat) (mo rf tx sz nw tr dy ac kp ik td ch sp ou : Nat) (ρ : Nat → Nat) (w : Int32) (hk : inZ w.toInt 0 1 = false) : CtI l yX6_setting cX6_setting 2 .int 1 25 [.ref mo, .int w] [[(mo, .inr (5, [.int (nI rf), .ref tx, .int (nI sz), .ref nw, .ref tr, .ref dy, .int (nI ac), .ref kp, .ref ik, .ref td, .ref ch, .int (nI sp), .int (nI ou)]))], [(nw, .inl (Y 0, 140, .inl (rowF ρ)))]] (fun r sg => r = nI 0 ∧ sg = [[(mo, .inr (5, [.int (nI 1), .ref tx, .int (nI sz), .ref nw, .ref tr, .ref dy, .int (nI ac), .ref kp, .ref ik, .ref td, .ref ch, .int (nI sp), .int (nI ou)]))], [(nw, .inl (Y 0, 140, .inl (rowF ρ)))]]) G Y := by
  refine x_ofI (by decide) (Nat.le_of_ble_eq_true rfl) (fun p e s m args below meth c A ls Q M hK hZ hw hl hret => ?_)
  obtain ⟨hx, hb, -⟩ := id M
  have hl : lv_has ls 2 [(0, .ref mo), (1, .int w)] := hl
  refine lv_aload_n hx hb dX6_setting_0 rfl (lv_at hl 0 rfl) ?_
  refine lv_iload_n hx hb dX6_setting_1 rfl (lv_at hl 1 rfl) ?_
  refine lv_i2l (v := w.toInt64) hx hb dX6_setting_2 rfl ?_
  refine lv_lconst (v := 0) hx hb dX6_setting_3 (by decide) ?_
  refine lv_lconst (v := 1) hx hb dX6_setting_4 (by decide) ?_
  refine x_cSI (As := [.long w.toInt64, .long 0, .long 1]) (k_X6_in l G Y w.toInt64 0 1) cw_X6_45 [] M hK hZ hw hl.1 rfl (by decide) ⟨by decide, by decide⟩ ⟨Nat.zero_le _, Nat.zero_le _⟩ rfl rfl (Nat.le_of_ble_eq_true rfl) dX6_setting_5 (fun r sg h_1 H locs hw => ?_)
  obtain ⟨rfl, rfl⟩ := h_1
  have hw : xW G A s.heap [[(mo, .inr (5, [.int (nI rf), .ref tx, .int (nI sz), .ref nw, .ref tr, .ref dy, .int (nI ac), .ref kp, .ref ik, .ref td, .ref ch, .int (nI sp), .int (nI ou)]))], [(nw, .inl (Y 0, 140, .inl (rowF ρ)))]] H locs := hw
  refine x_topI (y := b2i (inZ w.toInt 0 1)) (by rw [Int32.toInt_toInt64]; rfl) ?_
  refine x_beq M (tgt := 15) dX6_setting_8 (by decide) (fun c_2 => ?_) (fun c_2 => absurd c_2 (fun z => by have h9 := z; rw [hk] at h9; exact absurd h9 (by decide)))
  refine lv_iconst (v := (nI 1)) hx hb dX6_setting_15 (by decide) ?_
  refine x_cVI (As := [.int (nI 1)]) (k_X6_refused l G Y mo rf tx sz nw tr dy ac kp ik td ch sp ou 1 (by omega)) cw_X6_103 [0] 0 0 M hK hZ hw hl.1 rfl (by decide) rfl rfl rfl ⟨by decide, by decide⟩ ⟨Nat.zero_le _, Nat.zero_le _⟩ rfl rfl (Nat.le_of_ble_eq_true rfl) dX6_setting_16 (fun r sg h_3 H locs hw => ?_)
  obtain ⟨rfl, rfl⟩ := h_3
  have hw : xW G A s.heap [[(mo, .inr (5, [.int (nI 1), .ref tx, .int (nI sz), .ref nw, .ref tr, .ref dy, .int (nI ac), .ref kp, .ref ik, .ref td, .ref ch, .int (nI sp), .int (nI ou)]))], [(nw, .inl (Y 0, 140, .inl (rowF ρ)))]] H locs := hw
  refine x_beq M (tgt := 24) dX6_setting_19 (by decide) (fun c_4 => absurd c_4 (fun z => by first | exact absurd z (by decide) | (have := of_decide_eq_true z; omega) | (have := of_decide_eq_false z; omega))) (fun c_4 => ?_)
  refine lv_iconst (v := (nI 0)) hx hb dX6_setting_22 (by decide) ?_
  exact hret _ _ _ (nI 0) _ _ dX6_setting_23 hw rfl rfl ⟨rfl, rfl⟩
