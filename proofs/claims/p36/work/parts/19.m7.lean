set_option maxHeartbeats 4000000 in
set_option maxRecDepth 20000 in
theorem k_X1_dropPack (l : Launch) (G : va_G) (Y : Nat → Nat) (h j i : Nat) (ρ : Nat → Nat) (γ : Nat → Nat → Nat) (hI : Inv ρ) (hj : j < ρ 4) (hi : 1 ≤ i) (hp : i ≤ ρ (22 + 21 * j)) : CtV l yX1_dropPack cX1_dropPack 6 1 21 [.ref h, .int (nI j), .int (nI i)] [aucW Y h ρ γ] (fun sg => ∃ γ' : Nat → Nat → Nat, sg = [aucW Y h (mDrop ρ j i) γ']) G Y := by
  refine x_ofV (by decide) (Nat.le_of_ble_eq_true rfl) (fun p e s m args below meth c A ls Q M hK hZ hw hl hret => ?_)
  obtain ⟨hx, hb, -⟩ := id M
  have hl : lv_has ls 6 [(0, .ref h), (1, .int (nI j)), (2, .int (nI i))] := hl
  have hp3 := hI.pck (j := j) hj rfl
  have := hI.n6
  have := hI.over
  have := hI.keep
  have := hI.stepp
  refine lv_iload_n hx hb dX1_dropPack_0 rfl (lv_at hl 2 rfl) ?_
  refine lv_iconst (v := (nI 1)) hx hb dX1_dropPack_1 (by decide) ?_
  refine x_iadd M (n := 1 + i) dX1_dropPack_2 (by omega) ?_
  refine lv_istore_n (lv' := [(3, .int (nI (1 + i))), (0, .ref h), (1, .int (nI j)), (2, .int (nI i))]) hx hb dX1_dropPack_3 rfl hl (by decide) rfl (fun ls hl => ?_)
  have L4 : ∀ (fu : Nat) (nx : Nat) (f8 : Nat → Nat) (f9 : Nat → Nat), (ρ (22 + 21 * j) + 1 - nx < fu) → (i + 1 ≤ nx) → (nx ≤ ρ (22 + 21 * j) + 1) → (f8 = shf (lotF ρ γ) (9 * j + 3 * (i - 1)) (9 * j + 3 * (nx - 2)) 3) → (f9 = shf (worF ρ γ) (3 * j + (i - 1)) (3 * j + (nx - 2)) 1) → ∀ (H : Heap) (locs : List Loc), xW G A s.heap [aucR Y h (supF ρ) (ptsF ρ) (priF ρ) (rgtF ρ γ) (capF ρ γ) (pckF ρ γ) (valF ρ γ) (demF ρ γ) f8 f9 (ρ 4) (ρ 0) (ρ 1) (ρ 2) (ρ 3)] H locs → ∀ (ls : Array Slot), lv_has ls 6 [(0, .ref h), (1, .int (nI j)), (2, .int (nI i)), (3, .int (nI nx))] → W p l e (xRm 1 21) s m args below meth c H locs 0 0 Q (F0 m 4 ls []) := by
    intro fu
    induction fu with
    | zero => intro nx f8 f9 hm; exact absurd hm (Nat.not_lt_zero _)
    | succ fu ih4 =>
      intro nx f8 f9 hm hx1 hx2 hf8 hf9 H locs hw ls hl
      refine lv_iload_n hx hb dX1_dropPack_4 rfl (lv_at hl 3 rfl) ?_
      refine lv_aload_n hx hb dX1_dropPack_5 rfl (lv_at hl 0 rfl) ?_
      refine x_get M hK hw 0 0 rfl rfl ff_X1_27 rfl dX1_dropPack_6 ?_
      refine lv_iload_n hx hb dX1_dropPack_9 rfl (lv_at hl 1 rfl) ?_
      refine x_iald M hK hw 0 6 rfl rfl (by omega) (by decide) dX1_dropPack_10 ?_
      refine x_topN (n := ρ (22 + 21 * j)) (congrArg nI (pck_at (j := j) (by omega) rfl (by omega))) ?_
      have q_1 : ρ (22 + 21 * j) ≤ 3 := hI.pck (j := j) (by omega) (by omega)
      refine x_cgt M (tgt := 84) (by omega) (by omega) dX1_dropPack_11 (by decide) (fun c_2 => ?_) (fun c_2 => ?_)
      · refine lv_aload_n hx hb dX1_dropPack_84 rfl (lv_at hl 0 rfl) ?_
        refine x_get M hK hw 0 0 rfl rfl ff_X1_27 rfl dX1_dropPack_85 ?_
        refine lv_iload_n hx hb dX1_dropPack_88 rfl (lv_at hl 1 rfl) ?_
        refine lv_dup2_11 hx hb dX1_dropPack_89 rfl rfl ?_
        refine x_iald M hK hw 0 6 rfl rfl (by omega) (by decide) dX1_dropPack_90 ?_
        refine x_topN (n := ρ (22 + 21 * j)) (congrArg nI (pck_at (j := j) (by omega) rfl (by omega))) ?_
        refine lv_iconst (v := (nI 1)) hx hb dX1_dropPack_91 (by decide) ?_
        refine x_isub M (n := (ρ (22 + 21 * j) - 1)) dX1_dropPack_92 (by omega) ?_
        refine x_iast M hK hw 0 6 rfl rfl (by omega) (by decide) dX1_dropPack_93 (fun H locs hw => ?_)
        rw [upd_row] at hw
        have hw : xW G A s.heap [aucR Y h (supF ρ) (ptsF ρ) (priF ρ) (rgtF ρ γ) (capF ρ γ) (setN (pckF ρ γ) j (ρ (22 + 21 * j) - 1)) (valF ρ γ) (demF ρ γ) f8 f9 (ρ 4) (ρ 0) (ρ 1) (ρ 2) (ρ 3)] H locs := hw
        have hN3 : (mDrop ρ j i) 4 = ρ 4 := by clear hret hw hl M hK hZ hx hb; simp only [mDrop, setN, if_true, if_false, reduceIte] <;> (repeat' split) <;> first | rfl | (exfalso; omega) | omega
        obtain ⟨γ4, hw⟩ := auc_fold (i := 0) (ρ' := mDrop ρ j i) hw rfl hN3.symm (by clear hret hw hl M hK hZ hx hb; simp only [mDrop, setN, if_true, if_false, reduceIte] <;> (repeat' split) <;> first | rfl | (exfalso; omega) | omega) (by clear hret hw hl M hK hZ hx hb; simp only [mDrop, setN, if_true, if_false, reduceIte] <;> (repeat' split) <;> first | rfl | (exfalso; omega) | omega) (by clear hret hw hl M hK hZ hx hb; simp only [mDrop, setN, if_true, if_false, reduceIte] <;> (repeat' split) <;> first | rfl | (exfalso; omega) | omega) (by clear hret hw hl M hK hZ hx hb; simp only [mDrop, setN, if_true, if_false, reduceIte] <;> (repeat' split) <;> first | rfl | (exfalso; omega) | omega) (by clear hret hw hl M hK hZ hx hb; intro k9 hk9; (try simp only [mDrop, setN, if_true, if_false, reduceIte, supF]) <;> (repeat' split) <;> first | rfl | (exfalso; omega) | omega) (by clear hret hw hl M hK hZ hx hb; intro k9 hk9; (try simp only [mDrop, setN, if_true, if_false, reduceIte, ptsF]) <;> (repeat' split) <;> first | rfl | (exfalso; omega) | omega) (by clear hret hw hl M hK hZ hx hb; intro k9 hk9; (try simp only [mDrop, setN, if_true, if_false, reduceIte, priF]) <;> (repeat' split) <;> first | rfl | (exfalso; omega) | omega) (by clear hret hw hl M hK hZ hx hb; intro b9 hb1; rw [hN3] at hb1; rcases Nat.lt_trichotomy b9 j with q9 | q9 | q9; (rw [mDrop_o (by omega) (by omega)]; (repeat rw [setN_n (by omega)]); exact rgt_at (by omega) rfl rfl); (subst q9; (try simp only [mDrop, setN, if_true, if_false, reduceIte]) <;> (repeat' split) <;> first | rfl | (exfalso; omega) | exact rgt_at (by omega) rfl rfl | omega); (rw [mDrop_o (by omega) (by omega)]; (repeat rw [setN_n (by omega)]); exact rgt_at (by omega) rfl rfl)) (by clear hret hw hl M hK hZ hx hb; intro b9 hb1; rw [hN3] at hb1; rcases Nat.lt_trichotomy b9 j with q9 | q9 | q9; (rw [mDrop_o (by omega) (by omega)]; (repeat rw [setN_n (by omega)]); exact cap_at (by omega) rfl rfl); (subst q9; (try simp only [mDrop, setN, if_true, if_false, reduceIte]) <;> (repeat' split) <;> first | rfl | (exfalso; omega) | exact cap_at (by omega) rfl rfl | omega); (rw [mDrop_o (by omega) (by omega)]; (repeat rw [setN_n (by omega)]); exact cap_at (by omega) rfl rfl)) (by clear hret hw hl M hK hZ hx hb; intro b9 hb1; rw [hN3] at hb1; rcases Nat.lt_trichotomy b9 j with q9 | q9 | q9; (rw [mDrop_o (by omega) (by omega)]; (repeat rw [setN_n (by omega)]); exact pck_at (by omega) rfl rfl); (subst q9; (try simp only [mDrop, setN, if_true, if_false, reduceIte]) <;> (repeat' split) <;> first | rfl | (exfalso; omega) | exact pck_at (by omega) rfl rfl | omega); (rw [mDrop_o (by omega) (by omega)]; (repeat rw [setN_n (by omega)]); exact pck_at (by omega) rfl rfl)) (by clear hret hw hl M hK hZ hx hb; intro b9 k9 hb1 hk9; rw [hN3] at hb1; rcases Nat.lt_trichotomy b9 j with q9 | q9 | q9; (rw [mDrop_o (by omega) (by omega)]; (repeat rw [setN_n (by omega)]); exact val_at (by omega) (by omega) rfl rfl); (subst q9; (try simp only [mDrop, setN, if_true, if_false, reduceIte]) <;> (repeat' split) <;> first | rfl | (exfalso; omega) | exact val_at (by omega) (by omega) rfl rfl | omega); (rw [mDrop_o (by omega) (by omega)]; (repeat rw [setN_n (by omega)]); exact val_at (by omega) (by omega) rfl rfl)) (by clear hret hw hl M hK hZ hx hb; intro b9 k9 hb1 hk9; rw [hN3] at hb1; rcases Nat.lt_trichotomy b9 j with q9 | q9 | q9; (rw [mDrop_o (by omega) (by omega)]; (repeat rw [setN_n (by omega)]); exact dem_at (by omega) (by omega) rfl rfl); (subst q9; (try simp only [mDrop, setN, if_true, if_false, reduceIte]) <;> (repeat' split) <;> first | rfl | (exfalso; omega) | exact dem_at (by omega) (by omega) rfl rfl | omega); (rw [mDrop_o (by omega) (by omega)]; (repeat rw [setN_n (by omega)]); exact dem_at (by omega) (by omega) rfl rfl)) (by clear hret hw hl M hK hZ hx hb; intro b i1 k hb1 hi1 h3 hk; rw [hN3] at hb1; rw [hf8]; rcases Nat.lt_trichotomy b j with q9 | q9 | q9; (rw [mDrop_o (by omega) (by omega)] at hi1 ⊢; rw [shf_out (by omega)]; exact lot_at (by omega) (by omega) (by omega) (by omega) rfl rfl); (subst q9; simp only [mDrop, shf, if_true, if_false, reduceIte] at hi1 ⊢; (repeat' split) <;> first | (exfalso; omega) | exact lot_at (j := b) (i := i1) (k := k) (by omega) (by omega) (by omega) (by omega) (by omega) (by omega) | exact lot_at (j := b) (i := i1 + 1) (k := k) (by omega) (by omega) (by omega) (by omega) (by omega) (by omega)); (rw [mDrop_o (by omega) (by omega)] at hi1 ⊢; rw [shf_out (by omega)]; exact lot_at (by omega) (by omega) (by omega) (by omega) rfl rfl)) (by clear hret hw hl M hK hZ hx hb; intro b i1 hb1 hi1 h3; rw [hN3] at hb1; rw [hf9]; rcases Nat.lt_trichotomy b j with q9 | q9 | q9; (rw [mDrop_o (by omega) (by omega)] at hi1 ⊢; rw [shf_out (by omega)]; exact wor_at (by omega) (by omega) (by omega) rfl rfl); (subst q9; simp only [mDrop, shf, if_true, if_false, reduceIte] at hi1 ⊢; (repeat' split) <;> first | (exfalso; omega) | exact wor_at (j := b) (i := i1) (by omega) (by omega) (by omega) (by omega) (by omega) | exact wor_at (j := b) (i := i1 + 1) (by omega) (by omega) (by omega) (by omega) (by omega)); (rw [mDrop_o (by omega) (by omega)] at hi1 ⊢; rw [shf_out (by omega)]; exact wor_at (by omega) (by omega) (by omega) rfl rfl))
        have hw : xW G A s.heap [aucW Y h (mDrop ρ j i) γ4] H locs := hw
        exact hret _ _ _ _ _ dX1_dropPack_94 hw rfl ⟨_, rfl⟩
      refine lv_iload_n hx hb dX1_dropPack_14 rfl (lv_at hl 1 rfl) ?_
      refine lv_iload_n hx hb dX1_dropPack_15 rfl (lv_at hl 3 rfl) ?_
      refine x_cSI (As := [.int (nI j), .int (nI nx)]) (k_X1_packCell l G Y j nx (by omega)) cw_X1_88 [] M hK hZ hw hl.1 rfl (by decide) ⟨by decide, by decide⟩ ⟨Nat.zero_le _, Nat.zero_le _⟩ rfl rfl (Nat.le_of_ble_eq_true rfl) dX1_dropPack_16 (fun r sg h_5 H locs hw => ?_)
      obtain ⟨rfl, rfl⟩ := h_5
      have hw : xW G A s.heap [aucR Y h (supF ρ) (ptsF ρ) (priF ρ) (rgtF ρ γ) (capF ρ γ) (pckF ρ γ) (valF ρ γ) (demF ρ γ) f8 f9 (ρ 4) (ρ 0) (ρ 1) (ρ 2) (ρ 3)] H locs := hw
      refine lv_istore (lv' := [(4, .int (nI (3 * j + (nx - 1)))), (0, .ref h), (1, .int (nI j)), (2, .int (nI i)), (3, .int (nI nx))]) hx hb dX1_dropPack_19 hl (by decide) rfl (fun ls hl => ?_)
      refine lv_aload_n hx hb dX1_dropPack_21 rfl (lv_at hl 1 rfl) ?_
      refine x_get M hK hw 0 0 rfl rfl ff_X1_39 rfl dX1_dropPack_22 ?_
      refine lv_iload hx hb dX1_dropPack_25 (lv_at hl 0 rfl) ?_
      refine lv_iconst (v := (nI 1)) hx hb dX1_dropPack_27 (by decide) ?_
      refine x_isub M (n := 3 * j + (nx - 2)) dX1_dropPack_28 (by omega) ?_
      refine lv_aload_n hx hb dX1_dropPack_29 rfl (lv_at hl 1 rfl) ?_
      refine x_get M hK hw 0 0 rfl rfl ff_X1_39 rfl dX1_dropPack_30 ?_
      refine lv_iload hx hb dX1_dropPack_33 (lv_at hl 0 rfl) ?_
      refine x_iald M hK hw 0 10 rfl rfl (by omega) (by decide) dX1_dropPack_35 ?_
      refine x_iast M hK hw 0 10 rfl rfl (by omega) (by decide) dX1_dropPack_36 (fun H locs hw => ?_)
      rw [upd_row] at hw
      have hw : xW G A s.heap [aucR Y h (supF ρ) (ptsF ρ) (priF ρ) (rgtF ρ γ) (capF ρ γ) (pckF ρ γ) (valF ρ γ) (demF ρ γ) f8 (setN f9 (3 * j + (nx - 2)) (f9 (3 * j + (nx - 1)))) (ρ 4) (ρ 0) (ρ 1) (ρ 2) (ρ 3)] H locs := hw
      refine lv_iconst (v := (nI 0)) hx hb dX1_dropPack_37 (by decide) ?_
      refine lv_istore (lv' := [(5, .int (nI 0)), (4, .int (nI (3 * j + (nx - 1)))), (0, .ref h), (1, .int (nI j)), (2, .int (nI i)), (3, .int (nI nx))]) hx hb dX1_dropPack_38 hl (by decide) rfl (fun ls hl => ?_)
      refine lv_iload hx hb dX1_dropPack_40 (lv_at hl 0 rfl) ?_
      refine lv_iconst (v := (nI 3)) hx hb dX1_dropPack_42 (by decide) ?_
      refine x_cge M (tgt := 78) (by decide) (by decide) dX1_dropPack_43 (by decide) (fun c_6 => absurd c_6 (by decide)) (fun c_6 => ?_)
      refine lv_aload_n hx hb dX1_dropPack_46 rfl (lv_at hl 2 rfl) ?_
      refine x_get M hK hw 0 0 rfl rfl ff_X1_36 rfl dX1_dropPack_47 ?_
      refine lv_iload hx hb dX1_dropPack_50 (lv_at hl 1 rfl) ?_
      refine lv_iconst (v := (nI 1)) hx hb dX1_dropPack_52 (by decide) ?_
      refine x_isub M (n := 3 * j + (nx - 2)) dX1_dropPack_53 (by omega) ?_
      refine lv_iload hx hb dX1_dropPack_54 (lv_at hl 0 rfl) ?_
      refine x_cNI (As := [.int (nI (3 * j + (nx - 2))), .int (nI 0)]) (k_X5_cell l G Y (3 * j + (nx - 2)) 0) cw_X1_72 [] M hK hZ hw hl.1 rfl (by decide) ⟨by decide, by decide⟩ ⟨Nat.zero_le _, Nat.zero_le _⟩ rfl rfl (Nat.le_of_ble_eq_true rfl) dX1_dropPack_56 (fun r sg h_7 H locs hw => ?_)
      obtain ⟨rfl, rfl⟩ := h_7
      have hw : xW G A s.heap [aucR Y h (supF ρ) (ptsF ρ) (priF ρ) (rgtF ρ γ) (capF ρ γ) (pckF ρ γ) (valF ρ γ) (demF ρ γ) f8 (setN f9 (3 * j + (nx - 2)) (f9 (3 * j + (nx - 1)))) (ρ 4) (ρ 0) (ρ 1) (ρ 2) (ρ 3)] H locs := hw
      refine x_topN (n := 9 * j + 3 * (nx - 2)) (congrArg nI (by omega)) ?_
      refine lv_aload_n hx hb dX1_dropPack_59 rfl (lv_at hl 2 rfl) ?_
      refine x_get M hK hw 0 0 rfl rfl ff_X1_36 rfl dX1_dropPack_60 ?_
      refine lv_iload hx hb dX1_dropPack_63 (lv_at hl 1 rfl) ?_
      refine lv_iload hx hb dX1_dropPack_65 (lv_at hl 0 rfl) ?_
      refine x_cNI (As := [.int (nI (3 * j + (nx - 1))), .int (nI 0)]) (k_X5_cell l G Y (3 * j + (nx - 1)) 0) cw_X1_72 [] M hK hZ hw hl.1 rfl (by decide) ⟨by decide, by decide⟩ ⟨Nat.zero_le _, Nat.zero_le _⟩ rfl rfl (Nat.le_of_ble_eq_true rfl) dX1_dropPack_67 (fun r sg h_8 H locs hw => ?_)
      obtain ⟨rfl, rfl⟩ := h_8
      have hw : xW G A s.heap [aucR Y h (supF ρ) (ptsF ρ) (priF ρ) (rgtF ρ γ) (capF ρ γ) (pckF ρ γ) (valF ρ γ) (demF ρ γ) f8 (setN f9 (3 * j + (nx - 2)) (f9 (3 * j + (nx - 1)))) (ρ 4) (ρ 0) (ρ 1) (ρ 2) (ρ 3)] H locs := hw
      refine x_topN (n := 9 * j + 3 * (nx - 1)) (congrArg nI (by omega)) ?_
      refine x_iald M hK hw 0 9 rfl rfl (by omega) (by decide) dX1_dropPack_70 ?_
      refine x_iast M hK hw 0 9 rfl rfl (by omega) (by decide) dX1_dropPack_71 (fun H locs hw => ?_)
      rw [upd_row] at hw
      have hw : xW G A s.heap [aucR Y h (supF ρ) (ptsF ρ) (priF ρ) (rgtF ρ γ) (capF ρ γ) (pckF ρ γ) (valF ρ γ) (demF ρ γ) (setN f8 (9 * j + 3 * (nx - 2)) (f8 (9 * j + 3 * (nx - 1)))) (setN f9 (3 * j + (nx - 2)) (f9 (3 * j + (nx - 1)))) (ρ 4) (ρ 0) (ρ 1) (ρ 2) (ρ 3)] H locs := hw
      refine lv_iinc (v := (nI 1)) (lv' := [(5, .int (nI 1)), (4, .int (nI (3 * j + (nx - 1)))), (0, .ref h), (1, .int (nI j)), (2, .int (nI i)), (3, .int (nI nx))]) hx hb dX1_dropPack_72 hl (k := 0) rfl (by decide) (by decide) rfl (fun ls hl => ?_)
      refine lv_goto (tgt := 40) hx hb dX1_dropPack_75 (by decide) ?_
      refine lv_iload hx hb dX1_dropPack_40 (lv_at hl 0 rfl) ?_
      refine lv_iconst (v := (nI 3)) hx hb dX1_dropPack_42 (by decide) ?_
      refine x_cge M (tgt := 78) (by decide) (by decide) dX1_dropPack_43 (by decide) (fun c_9 => absurd c_9 (by decide)) (fun c_9 => ?_)
      refine lv_aload_n hx hb dX1_dropPack_46 rfl (lv_at hl 2 rfl) ?_
      refine x_get M hK hw 0 0 rfl rfl ff_X1_36 rfl dX1_dropPack_47 ?_
      refine lv_iload hx hb dX1_dropPack_50 (lv_at hl 1 rfl) ?_
      refine lv_iconst (v := (nI 1)) hx hb dX1_dropPack_52 (by decide) ?_
      refine x_isub M (n := 3 * j + (nx - 2)) dX1_dropPack_53 (by omega) ?_
      refine lv_iload hx hb dX1_dropPack_54 (lv_at hl 0 rfl) ?_
      refine x_cNI (As := [.int (nI (3 * j + (nx - 2))), .int (nI 1)]) (k_X5_cell l G Y (3 * j + (nx - 2)) 1) cw_X1_72 [] M hK hZ hw hl.1 rfl (by decide) ⟨by decide, by decide⟩ ⟨Nat.zero_le _, Nat.zero_le _⟩ rfl rfl (Nat.le_of_ble_eq_true rfl) dX1_dropPack_56 (fun r sg h_10 H locs hw => ?_)
      obtain ⟨rfl, rfl⟩ := h_10
      have hw : xW G A s.heap [aucR Y h (supF ρ) (ptsF ρ) (priF ρ) (rgtF ρ γ) (capF ρ γ) (pckF ρ γ) (valF ρ γ) (demF ρ γ) (setN f8 (9 * j + 3 * (nx - 2)) (f8 (9 * j + 3 * (nx - 1)))) (setN f9 (3 * j + (nx - 2)) (f9 (3 * j + (nx - 1)))) (ρ 4) (ρ 0) (ρ 1) (ρ 2) (ρ 3)] H locs := hw
      refine x_topN (n := 1 + 9 * j + 3 * (nx - 2)) (congrArg nI (by omega)) ?_
      refine lv_aload_n hx hb dX1_dropPack_59 rfl (lv_at hl 2 rfl) ?_
      refine x_get M hK hw 0 0 rfl rfl ff_X1_36 rfl dX1_dropPack_60 ?_
      refine lv_iload hx hb dX1_dropPack_63 (lv_at hl 1 rfl) ?_
      refine lv_iload hx hb dX1_dropPack_65 (lv_at hl 0 rfl) ?_
      refine x_cNI (As := [.int (nI (3 * j + (nx - 1))), .int (nI 1)]) (k_X5_cell l G Y (3 * j + (nx - 1)) 1) cw_X1_72 [] M hK hZ hw hl.1 rfl (by decide) ⟨by decide, by decide⟩ ⟨Nat.zero_le _, Nat.zero_le _⟩ rfl rfl (Nat.le_of_ble_eq_true rfl) dX1_dropPack_67 (fun r sg h_11 H locs hw => ?_)
      obtain ⟨rfl, rfl⟩ := h_11
      have hw : xW G A s.heap [aucR Y h (supF ρ) (ptsF ρ) (priF ρ) (rgtF ρ γ) (capF ρ γ) (pckF ρ γ) (valF ρ γ) (demF ρ γ) (setN f8 (9 * j + 3 * (nx - 2)) (f8 (9 * j + 3 * (nx - 1)))) (setN f9 (3 * j + (nx - 2)) (f9 (3 * j + (nx - 1)))) (ρ 4) (ρ 0) (ρ 1) (ρ 2) (ρ 3)] H locs := hw
      refine x_topN (n := 1 + 9 * j + 3 * (nx - 1)) (congrArg nI (by omega)) ?_
      refine x_iald M hK hw 0 9 rfl rfl (by omega) (by decide) dX1_dropPack_70 ?_
      refine x_iast M hK hw 0 9 rfl rfl (by omega) (by decide) dX1_dropPack_71 (fun H locs hw => ?_)
      rw [upd_row] at hw
      have hw : xW G A s.heap [aucR Y h (supF ρ) (ptsF ρ) (priF ρ) (rgtF ρ γ) (capF ρ γ) (pckF ρ γ) (valF ρ γ) (demF ρ γ) (setN (setN f8 (9 * j + 3 * (nx - 2)) (f8 (9 * j + 3 * (nx - 1)))) (1 + 9 * j + 3 * (nx - 2)) ((setN f8 (9 * j + 3 * (nx - 2)) (f8 (9 * j + 3 * (nx - 1)))) (1 + 9 * j + 3 * (nx - 1)))) (setN f9 (3 * j + (nx - 2)) (f9 (3 * j + (nx - 1)))) (ρ 4) (ρ 0) (ρ 1) (ρ 2) (ρ 3)] H locs := hw
      refine lv_iinc (v := (nI 2)) (lv' := [(5, .int (nI 2)), (4, .int (nI (3 * j + (nx - 1)))), (0, .ref h), (1, .int (nI j)), (2, .int (nI i)), (3, .int (nI nx))]) hx hb dX1_dropPack_72 hl (k := 0) rfl (by decide) (by decide) rfl (fun ls hl => ?_)
      refine lv_goto (tgt := 40) hx hb dX1_dropPack_75 (by decide) ?_
      refine lv_iload hx hb dX1_dropPack_40 (lv_at hl 0 rfl) ?_
      refine lv_iconst (v := (nI 3)) hx hb dX1_dropPack_42 (by decide) ?_
      refine x_cge M (tgt := 78) (by decide) (by decide) dX1_dropPack_43 (by decide) (fun c_12 => absurd c_12 (by decide)) (fun c_12 => ?_)
      refine lv_aload_n hx hb dX1_dropPack_46 rfl (lv_at hl 2 rfl) ?_
      refine x_get M hK hw 0 0 rfl rfl ff_X1_36 rfl dX1_dropPack_47 ?_
      refine lv_iload hx hb dX1_dropPack_50 (lv_at hl 1 rfl) ?_
      refine lv_iconst (v := (nI 1)) hx hb dX1_dropPack_52 (by decide) ?_
      refine x_isub M (n := 3 * j + (nx - 2)) dX1_dropPack_53 (by omega) ?_
      refine lv_iload hx hb dX1_dropPack_54 (lv_at hl 0 rfl) ?_
      refine x_cNI (As := [.int (nI (3 * j + (nx - 2))), .int (nI 2)]) (k_X5_cell l G Y (3 * j + (nx - 2)) 2) cw_X1_72 [] M hK hZ hw hl.1 rfl (by decide) ⟨by decide, by decide⟩ ⟨Nat.zero_le _, Nat.zero_le _⟩ rfl rfl (Nat.le_of_ble_eq_true rfl) dX1_dropPack_56 (fun r sg h_13 H locs hw => ?_)
      obtain ⟨rfl, rfl⟩ := h_13
      have hw : xW G A s.heap [aucR Y h (supF ρ) (ptsF ρ) (priF ρ) (rgtF ρ γ) (capF ρ γ) (pckF ρ γ) (valF ρ γ) (demF ρ γ) (setN (setN f8 (9 * j + 3 * (nx - 2)) (f8 (9 * j + 3 * (nx - 1)))) (1 + 9 * j + 3 * (nx - 2)) ((setN f8 (9 * j + 3 * (nx - 2)) (f8 (9 * j + 3 * (nx - 1)))) (1 + 9 * j + 3 * (nx - 1)))) (setN f9 (3 * j + (nx - 2)) (f9 (3 * j + (nx - 1)))) (ρ 4) (ρ 0) (ρ 1) (ρ 2) (ρ 3)] H locs := hw
      refine x_topN (n := 2 + 9 * j + 3 * (nx - 2)) (congrArg nI (by omega)) ?_
      refine lv_aload_n hx hb dX1_dropPack_59 rfl (lv_at hl 2 rfl) ?_
      refine x_get M hK hw 0 0 rfl rfl ff_X1_36 rfl dX1_dropPack_60 ?_
      refine lv_iload hx hb dX1_dropPack_63 (lv_at hl 1 rfl) ?_
      refine lv_iload hx hb dX1_dropPack_65 (lv_at hl 0 rfl) ?_
      refine x_cNI (As := [.int (nI (3 * j + (nx - 1))), .int (nI 2)]) (k_X5_cell l G Y (3 * j + (nx - 1)) 2) cw_X1_72 [] M hK hZ hw hl.1 rfl (by decide) ⟨by decide, by decide⟩ ⟨Nat.zero_le _, Nat.zero_le _⟩ rfl rfl (Nat.le_of_ble_eq_true rfl) dX1_dropPack_67 (fun r sg h_14 H locs hw => ?_)
      obtain ⟨rfl, rfl⟩ := h_14
      have hw : xW G A s.heap [aucR Y h (supF ρ) (ptsF ρ) (priF ρ) (rgtF ρ γ) (capF ρ γ) (pckF ρ γ) (valF ρ γ) (demF ρ γ) (setN (setN f8 (9 * j + 3 * (nx - 2)) (f8 (9 * j + 3 * (nx - 1)))) (1 + 9 * j + 3 * (nx - 2)) ((setN f8 (9 * j + 3 * (nx - 2)) (f8 (9 * j + 3 * (nx - 1)))) (1 + 9 * j + 3 * (nx - 1)))) (setN f9 (3 * j + (nx - 2)) (f9 (3 * j + (nx - 1)))) (ρ 4) (ρ 0) (ρ 1) (ρ 2) (ρ 3)] H locs := hw
      refine x_topN (n := 2 + 9 * j + 3 * (nx - 1)) (congrArg nI (by omega)) ?_
      refine x_iald M hK hw 0 9 rfl rfl (by omega) (by decide) dX1_dropPack_70 ?_
      refine x_iast M hK hw 0 9 rfl rfl (by omega) (by decide) dX1_dropPack_71 (fun H locs hw => ?_)
      rw [upd_row] at hw
      have hw : xW G A s.heap [aucR Y h (supF ρ) (ptsF ρ) (priF ρ) (rgtF ρ γ) (capF ρ γ) (pckF ρ γ) (valF ρ γ) (demF ρ γ) (setN (setN (setN f8 (9 * j + 3 * (nx - 2)) (f8 (9 * j + 3 * (nx - 1)))) (1 + 9 * j + 3 * (nx - 2)) ((setN f8 (9 * j + 3 * (nx - 2)) (f8 (9 * j + 3 * (nx - 1)))) (1 + 9 * j + 3 * (nx - 1)))) (2 + 9 * j + 3 * (nx - 2)) ((setN (setN f8 (9 * j + 3 * (nx - 2)) (f8 (9 * j + 3 * (nx - 1)))) (1 + 9 * j + 3 * (nx - 2)) ((setN f8 (9 * j + 3 * (nx - 2)) (f8 (9 * j + 3 * (nx - 1)))) (1 + 9 * j + 3 * (nx - 1)))) (2 + 9 * j + 3 * (nx - 1)))) (setN f9 (3 * j + (nx - 2)) (f9 (3 * j + (nx - 1)))) (ρ 4) (ρ 0) (ρ 1) (ρ 2) (ρ 3)] H locs := hw
      refine lv_iinc (v := (nI 3)) (lv' := [(5, .int (nI 3)), (4, .int (nI (3 * j + (nx - 1)))), (0, .ref h), (1, .int (nI j)), (2, .int (nI i)), (3, .int (nI nx))]) hx hb dX1_dropPack_72 hl (k := 0) rfl (by decide) (by decide) rfl (fun ls hl => ?_)
      refine lv_goto (tgt := 40) hx hb dX1_dropPack_75 (by decide) ?_
      refine lv_iload hx hb dX1_dropPack_40 (lv_at hl 0 rfl) ?_
      refine lv_iconst (v := (nI 3)) hx hb dX1_dropPack_42 (by decide) ?_
      refine x_cge M (tgt := 78) (by decide) (by decide) dX1_dropPack_43 (by decide) (fun c_15 => ?_) (fun c_15 => absurd c_15 (by decide))
      refine lv_iinc (v := (nI (1 + nx))) (lv' := [(3, .int (nI (1 + nx))), (5, .int (nI 3)), (4, .int (nI (3 * j + (nx - 1)))), (0, .ref h), (1, .int (nI j)), (2, .int (nI i))]) hx hb dX1_dropPack_78 hl (k := 5) rfl (by rw [show (1 : Int) = ((1 : Nat) : Int) from rfl, nI_inc]; exact congrArg nI (by omega)) (by decide) rfl (fun ls hl => ?_)
      refine lv_goto (tgt := 4) hx hb dX1_dropPack_81 (by decide) ?_
      exact ih4 (1 + nx) (setN (setN (setN f8 (9 * j + 3 * (nx - 2)) (f8 (9 * j + 3 * (nx - 1)))) (1 + 9 * j + 3 * (nx - 2)) ((setN f8 (9 * j + 3 * (nx - 2)) (f8 (9 * j + 3 * (nx - 1)))) (1 + 9 * j + 3 * (nx - 1)))) (2 + 9 * j + 3 * (nx - 2)) ((setN (setN f8 (9 * j + 3 * (nx - 2)) (f8 (9 * j + 3 * (nx - 1)))) (1 + 9 * j + 3 * (nx - 2)) ((setN f8 (9 * j + 3 * (nx - 2)) (f8 (9 * j + 3 * (nx - 1)))) (1 + 9 * j + 3 * (nx - 1)))) (2 + 9 * j + 3 * (nx - 1)))) (setN f9 (3 * j + (nx - 2)) (f9 (3 * j + (nx - 1)))) (by omega) (by omega) (by omega) (by clear hret hw hl M hK hZ hx hb; rw [hf8, show 1 + nx - 2 = nx - 2 + 1 by omega, show 9 * j + 3 * (nx - 2 + 1) = 9 * j + 3 * (nx - 2) + 3 by omega, show 1 + 9 * j + 3 * (nx - 2) = 9 * j + 3 * (nx - 2) + 1 by omega, show 2 + 9 * j + 3 * (nx - 2) = 9 * j + 3 * (nx - 2) + 2 by omega]; exact shf_3 (by omega) (by rw [shf_out (by omega)]; congr 1; omega) (by rw [setN_n (by omega), shf_out (by omega)]; congr 1; omega) (by rw [setN_n (by omega), setN_n (by omega), shf_out (by omega)]; congr 1; omega)) (by clear hret hw hl M hK hZ hx hb; rw [hf9, show 1 + nx - 2 = nx - 2 + 1 by omega, show 3 * j + (nx - 2 + 1) = 3 * j + (nx - 2) + 1 by omega]; exact shf_1 (by omega) (by rw [shf_out (by omega), shf_out (by omega)]; congr 1; omega)) _ _ hw _ (lv_sub hl [3, 4, 5, 0] rfl)
  exact L4 (ρ (22 + 21 * j) + 1 - (1 + i) + 1) (1 + i) (lotF ρ γ) (worF ρ γ) (Nat.lt_succ_self _) (by omega) (by omega) (by rw [show 1 + i - 2 = i - 1 by omega]; exact shf_0.symm) (by rw [show 1 + i - 2 = i - 1 by omega]; exact shf_0.symm) _ _ hw _ (lv_sub hl [1, 2, 3, 0] rfl)
