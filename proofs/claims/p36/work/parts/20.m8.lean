set_option maxHeartbeats 4000000 in
set_option maxRecDepth 20000 in
theorem k_X1_closeRound (l : Launch) (G : va_G) (Y : Nat → Nat) (h : Nat) (ρ : Nat → Nat) (γ : Nat → Nat → Nat) (hI : Inv ρ) : CtI l yX1_closeRound cX1_closeRound 3 .int 2 44 [.ref h] [aucW Y h ρ γ] (fun r sg => r = nI (scarce (cl1 ρ)) ∧ ∃ γ' : Nat → Nat → Nat, sg = [aucW Y h (mClose ρ) γ']) G Y := by
  refine x_ofI (by decide) (Nat.le_of_ble_eq_true rfl) (fun p e s m args below meth c A ls Q M hK hZ hw hl hret => ?_)
  obtain ⟨hx, hb, -⟩ := id M
  have hl : lv_has ls 3 [(0, .ref h)] := hl
  have := hI.n6
  have := hI.over
  have := hI.keep
  have := hI.stepp
  refine lv_iconst (v := (nI 0)) hx hb dX1_closeRound_0 (by decide) ?_
  refine lv_istore_n (lv' := [(1, .int (nI 0)), (0, .ref h)]) hx hb dX1_closeRound_1 rfl hl (by decide) rfl (fun ls hl => ?_)
  have L2 : ∀ (fu : Nat) (i : Nat) (γi : Nat → Nat → Nat), (ρ 4 - i < fu) → (i ≤ ρ 4) → ∀ (H : Heap) (locs : List Loc), xW G A s.heap [aucW Y h (clR ρ i) γi] H locs → ∀ (ls : Array Slot), lv_has ls 3 [(0, .ref h), (1, .int (nI i))] → W p l e (xRm 2 44) s m args below meth c H locs 0 0 Q (F0 m 2 ls []) := by
    intro fu
    induction fu with
    | zero => intro i γi hm; exact absurd hm (Nat.not_lt_zero _)
    | succ fu ih2 =>
      intro i γi hm hi H locs hw ls hl
      have hIi := Inv_clR hI hi
      have e4 : clR ρ i 4 = ρ 4 := clR_4
      have := hIi.keep
      refine lv_iload_n hx hb dX1_closeRound_2 rfl (lv_at hl 1 rfl) ?_
      refine lv_aload_n hx hb dX1_closeRound_3 rfl (lv_at hl 0 rfl) ?_
      refine x_get M hK hw 0 0 rfl rfl ff_X1_45 rfl dX1_closeRound_4 ?_
      refine x_cge M (tgt := 46) (by omega) (by omega) dX1_closeRound_7 (by decide) (fun c_1 => ?_) (fun c_1 => ?_)
      · obtain rfl : i = ρ 4 := by omega
        have hI1 := Inv_cl1 hI
        have e40 : cl1 ρ 4 = ρ 4 := clR_4
        have e00 : cl1 ρ 0 = ρ 0 := clR_o (fun c _ => by omega)
        have hw : xW G A s.heap [aucW Y h (cl1 ρ) γi] H locs := hw
        refine lv_iconst (v := (nI 0)) hx hb dX1_closeRound_46 (by decide) ?_
        refine lv_istore_n (lv' := [(1, .int (nI 0)), (0, .ref h)]) hx hb dX1_closeRound_47 rfl hl (by decide) rfl (fun ls hl => ?_)
        refine lv_iconst (v := (nI 0)) hx hb dX1_closeRound_48 (by decide) ?_
        refine lv_istore_n (lv' := [(2, .int (nI 0)), (1, .int (nI 0)), (0, .ref h)]) hx hb dX1_closeRound_49 rfl hl (by decide) rfl (fun ls hl => ?_)
        refine lv_iload_n hx hb dX1_closeRound_50 rfl (lv_at hl 0 rfl) ?_
        refine lv_iconst (v := (nI 3)) hx hb dX1_closeRound_51 (by decide) ?_
        refine x_cge M (tgt := 83) (by decide) (by decide) dX1_closeRound_52 (by decide) (fun c_2 => absurd c_2 (by decide)) (fun c_2 => ?_)
        refine lv_aload_n hx hb dX1_closeRound_55 rfl (lv_at hl 2 rfl) ?_
        refine lv_iload_n hx hb dX1_closeRound_56 rfl (lv_at hl 0 rfl) ?_
        refine x_cVI (As := [.int (nI 0)]) (k_X1_askedOf l G Y h 0 (cl1 ρ) γi (hI1) (by omega)) cw_X1_76 [0] 0 0 M hK hZ hw hl.1 rfl (by decide) rfl rfl rfl ⟨by decide, by decide⟩ ⟨Nat.zero_le _, Nat.zero_le _⟩ rfl rfl (Nat.le_of_ble_eq_true rfl) dX1_closeRound_57 (fun r sg h_3 H locs hw => ?_)
        obtain ⟨rfl, rfl⟩ := h_3
        have hw : xW G A s.heap [aucW Y h (cl1 ρ) γi] H locs := hw
        have q_4 : askedOf (cl1 ρ) 0 ≤ 54 := askedOf_le hI1 (by omega)
        refine lv_aload_n hx hb dX1_closeRound_60 rfl (lv_at hl 2 rfl) ?_
        refine x_get M hK hw 0 0 rfl rfl ff_X1_9 rfl dX1_closeRound_61 ?_
        refine lv_iload_n hx hb dX1_closeRound_64 rfl (lv_at hl 0 rfl) ?_
        refine x_iald M hK hw 0 1 rfl rfl (by decide) (by decide) dX1_closeRound_65 ?_
        refine x_topN (n := (cl1 ρ) 5) rfl ?_
        have q_5 : 1 ≤ (cl1 ρ) 5 := (hI1.sup (q := 5) (k := 0) (by decide) rfl).1
        have q_6 : (cl1 ρ) 5 ≤ 9 := (hI1.sup (q := 5) (k := 0) (by decide) rfl).2
        refine x_cle M (tgt := 77) (by omega) (by omega) dX1_closeRound_66 (by decide) (fun c_7 => ?_) (fun c_7 => ?_)
        · refine lv_iinc (v := (nI 1)) (lv' := [(2, .int (nI 1)), (1, .int (nI 0)), (0, .ref h)]) hx hb dX1_closeRound_77 hl (k := 0) rfl (by decide) (by decide) rfl (fun ls hl => ?_)
          refine lv_goto (tgt := 50) hx hb dX1_closeRound_80 (by decide) ?_
          refine lv_iload_n hx hb dX1_closeRound_50 rfl (lv_at hl 0 rfl) ?_
          refine lv_iconst (v := (nI 3)) hx hb dX1_closeRound_51 (by decide) ?_
          refine x_cge M (tgt := 83) (by decide) (by decide) dX1_closeRound_52 (by decide) (fun c_8 => absurd c_8 (by decide)) (fun c_8 => ?_)
          refine lv_aload_n hx hb dX1_closeRound_55 rfl (lv_at hl 2 rfl) ?_
          refine lv_iload_n hx hb dX1_closeRound_56 rfl (lv_at hl 0 rfl) ?_
          refine x_cVI (As := [.int (nI 1)]) (k_X1_askedOf l G Y h 1 (cl1 ρ) γi (hI1) (by omega)) cw_X1_76 [0] 0 0 M hK hZ hw hl.1 rfl (by decide) rfl rfl rfl ⟨by decide, by decide⟩ ⟨Nat.zero_le _, Nat.zero_le _⟩ rfl rfl (Nat.le_of_ble_eq_true rfl) dX1_closeRound_57 (fun r sg h_9 H locs hw => ?_)
          obtain ⟨rfl, rfl⟩ := h_9
          have hw : xW G A s.heap [aucW Y h (cl1 ρ) γi] H locs := hw
          have q_10 : askedOf (cl1 ρ) 1 ≤ 54 := askedOf_le hI1 (by omega)
          refine lv_aload_n hx hb dX1_closeRound_60 rfl (lv_at hl 2 rfl) ?_
          refine x_get M hK hw 0 0 rfl rfl ff_X1_9 rfl dX1_closeRound_61 ?_
          refine lv_iload_n hx hb dX1_closeRound_64 rfl (lv_at hl 0 rfl) ?_
          refine x_iald M hK hw 0 1 rfl rfl (by decide) (by decide) dX1_closeRound_65 ?_
          refine x_topN (n := (cl1 ρ) 6) rfl ?_
          have q_11 : 1 ≤ (cl1 ρ) 6 := (hI1.sup (q := 6) (k := 1) (by decide) rfl).1
          have q_12 : (cl1 ρ) 6 ≤ 9 := (hI1.sup (q := 6) (k := 1) (by decide) rfl).2
          refine x_cle M (tgt := 77) (by omega) (by omega) dX1_closeRound_66 (by decide) (fun c_13 => ?_) (fun c_13 => ?_)
          · refine lv_iinc (v := (nI 2)) (lv' := [(2, .int (nI 2)), (1, .int (nI 0)), (0, .ref h)]) hx hb dX1_closeRound_77 hl (k := 0) rfl (by decide) (by decide) rfl (fun ls hl => ?_)
            refine lv_goto (tgt := 50) hx hb dX1_closeRound_80 (by decide) ?_
            refine lv_iload_n hx hb dX1_closeRound_50 rfl (lv_at hl 0 rfl) ?_
            refine lv_iconst (v := (nI 3)) hx hb dX1_closeRound_51 (by decide) ?_
            refine x_cge M (tgt := 83) (by decide) (by decide) dX1_closeRound_52 (by decide) (fun c_14 => absurd c_14 (by decide)) (fun c_14 => ?_)
            refine lv_aload_n hx hb dX1_closeRound_55 rfl (lv_at hl 2 rfl) ?_
            refine lv_iload_n hx hb dX1_closeRound_56 rfl (lv_at hl 0 rfl) ?_
            refine x_cVI (As := [.int (nI 2)]) (k_X1_askedOf l G Y h 2 (cl1 ρ) γi (hI1) (by omega)) cw_X1_76 [0] 0 0 M hK hZ hw hl.1 rfl (by decide) rfl rfl rfl ⟨by decide, by decide⟩ ⟨Nat.zero_le _, Nat.zero_le _⟩ rfl rfl (Nat.le_of_ble_eq_true rfl) dX1_closeRound_57 (fun r sg h_15 H locs hw => ?_)
            obtain ⟨rfl, rfl⟩ := h_15
            have hw : xW G A s.heap [aucW Y h (cl1 ρ) γi] H locs := hw
            have q_16 : askedOf (cl1 ρ) 2 ≤ 54 := askedOf_le hI1 (by omega)
            refine lv_aload_n hx hb dX1_closeRound_60 rfl (lv_at hl 2 rfl) ?_
            refine x_get M hK hw 0 0 rfl rfl ff_X1_9 rfl dX1_closeRound_61 ?_
            refine lv_iload_n hx hb dX1_closeRound_64 rfl (lv_at hl 0 rfl) ?_
            refine x_iald M hK hw 0 1 rfl rfl (by decide) (by decide) dX1_closeRound_65 ?_
            refine x_topN (n := (cl1 ρ) 7) rfl ?_
            have q_17 : 1 ≤ (cl1 ρ) 7 := (hI1.sup (q := 7) (k := 2) (by decide) rfl).1
            have q_18 : (cl1 ρ) 7 ≤ 9 := (hI1.sup (q := 7) (k := 2) (by decide) rfl).2
            refine x_cle M (tgt := 77) (by omega) (by omega) dX1_closeRound_66 (by decide) (fun c_19 => ?_) (fun c_19 => ?_)
            · refine lv_iinc (v := (nI 3)) (lv' := [(2, .int (nI 3)), (1, .int (nI 0)), (0, .ref h)]) hx hb dX1_closeRound_77 hl (k := 0) rfl (by decide) (by decide) rfl (fun ls hl => ?_)
              refine lv_goto (tgt := 50) hx hb dX1_closeRound_80 (by decide) ?_
              refine lv_iload_n hx hb dX1_closeRound_50 rfl (lv_at hl 0 rfl) ?_
              refine lv_iconst (v := (nI 3)) hx hb dX1_closeRound_51 (by decide) ?_
              refine x_cge M (tgt := 83) (by decide) (by decide) dX1_closeRound_52 (by decide) (fun c_20 => ?_) (fun c_20 => absurd c_20 (by decide))
              refine lv_aload_n hx hb dX1_closeRound_83 rfl (lv_at hl 2 rfl) ?_
              refine lv_dup hx hb dX1_closeRound_84 rfl ?_
              refine x_get M hK hw 0 0 rfl rfl ff_X1_49 rfl dX1_closeRound_85 ?_
              refine lv_iconst (v := (nI 1)) hx hb dX1_closeRound_88 (by decide) ?_
              refine x_iadd M (n := 1 + (cl1 ρ) 0) dX1_closeRound_89 (by omega) ?_
              refine x_put M hK hw 0 0 rfl rfl fp_X1_49 rfl rfl (Nat.le_of_ble_eq_true rfl) dX1_closeRound_90 (fun H locs hw => ?_)
              have hw : xW G A s.heap [aucR Y h (supF (cl1 ρ)) (ptsF (cl1 ρ)) (priF (cl1 ρ)) (rgtF (cl1 ρ) γi) (capF (cl1 ρ) γi) (pckF (cl1 ρ) γi) (valF (cl1 ρ) γi) (demF (cl1 ρ) γi) (lotF (cl1 ρ) γi) (worF (cl1 ρ) γi) ((cl1 ρ) 4) (1 + (cl1 ρ) 0) ((cl1 ρ) 1) ((cl1 ρ) 2) ((cl1 ρ) 3)] H locs := hw
              refine lv_aload_n hx hb dX1_closeRound_93 rfl (lv_at hl 2 rfl) ?_
              refine lv_iload_n hx hb dX1_closeRound_94 rfl (lv_at hl 1 rfl) ?_
              refine x_zne M (tgt := 102) (by decide) dX1_closeRound_95 (by decide) (fun c_21 => absurd c_21 (by decide)) (fun c_21 => ?_)
              refine lv_iconst (v := (nI 1)) hx hb dX1_closeRound_98 (by decide) ?_
              refine lv_goto (tgt := 103) hx hb dX1_closeRound_99 (by decide) ?_
              refine x_put M hK hw 0 0 rfl rfl fp_X1_52 rfl rfl (Nat.le_of_ble_eq_true rfl) dX1_closeRound_103 (fun H locs hw => ?_)
              have hw : xW G A s.heap [aucR Y h (supF (cl1 ρ)) (ptsF (cl1 ρ)) (priF (cl1 ρ)) (rgtF (cl1 ρ) γi) (capF (cl1 ρ) γi) (pckF (cl1 ρ) γi) (valF (cl1 ρ) γi) (demF (cl1 ρ) γi) (lotF (cl1 ρ) γi) (worF (cl1 ρ) γi) ((cl1 ρ) 4) (1 + (cl1 ρ) 0) 1 ((cl1 ρ) 2) ((cl1 ρ) 3)] H locs := hw
              refine lv_iload_n hx hb dX1_closeRound_106 rfl (lv_at hl 1 rfl) ?_
              have hQ : clQ (cl1 ρ) = cl1 ρ := by unfold clQ; rw [show clP (cl1 ρ) 0 = cl1 ρ from if_neg (Nat.not_lt.mpr c_7), show clP (cl1 ρ) 1 = cl1 ρ from if_neg (Nat.not_lt.mpr c_13), show clP (cl1 ρ) 2 = cl1 ρ from if_neg (Nat.not_lt.mpr c_19)]
              have hSc : scarce (cl1 ρ) = 0 := by clear hret hw hl M hK hZ hx hb; simp only [scarce, scar, Nat.reduceAdd]; (repeat' split) <;> omega
              have hM : mClose ρ = setN (setN (cl1 ρ) 1 1) 0 (ρ 0 + 1) := by unfold mClose; rw [hQ, hSc]; rfl
              have hN22 : (setN (setN (cl1 ρ) 1 1) 0 (ρ 0 + 1)) 4 = (cl1 ρ) 4 := by clear hret hw hl M hK hZ hx hb; simp only [setN, setN, if_true, if_false, reduceIte] <;> (repeat' split) <;> first | rfl | (exfalso; omega) | omega
              obtain ⟨γ23, hw⟩ := auc_fold (i := 0) (ρ' := setN (setN (cl1 ρ) 1 1) 0 (ρ 0 + 1)) hw rfl hN22.symm (by clear hret hw hl M hK hZ hx hb; simp only [setN, setN, if_true, if_false, reduceIte] <;> (repeat' split) <;> first | rfl | (exfalso; omega) | omega) (by clear hret hw hl M hK hZ hx hb; simp only [setN, setN, if_true, if_false, reduceIte] <;> (repeat' split) <;> first | rfl | (exfalso; omega) | omega) (by clear hret hw hl M hK hZ hx hb; simp only [setN, setN, if_true, if_false, reduceIte] <;> (repeat' split) <;> first | rfl | (exfalso; omega) | omega) (by clear hret hw hl M hK hZ hx hb; simp only [setN, setN, if_true, if_false, reduceIte] <;> (repeat' split) <;> first | rfl | (exfalso; omega) | omega) (by clear hret hw hl M hK hZ hx hb; intro k9 hk9; (try simp only [setN, setN, if_true, if_false, reduceIte, supF]) <;> (repeat' split) <;> first | rfl | (exfalso; omega) | omega) (by clear hret hw hl M hK hZ hx hb; intro k9 hk9; (try simp only [setN, setN, if_true, if_false, reduceIte, ptsF]) <;> (repeat' split) <;> first | rfl | (exfalso; omega) | omega) (by clear hret hw hl M hK hZ hx hb; intro k9 hk9; (try simp only [setN, setN, if_true, if_false, reduceIte, priF]) <;> (repeat' split) <;> first | rfl | (exfalso; omega) | omega) (by clear hret hw hl M hK hZ hx hb; intro b9 hb1; rw [hN22] at hb1; (try simp only [setN, setN, if_true, if_false, reduceIte]) <;> (repeat' split) <;> first | rfl | (exfalso; omega) | exact rgt_at (by omega) rfl rfl | omega) (by clear hret hw hl M hK hZ hx hb; intro b9 hb1; rw [hN22] at hb1; (try simp only [setN, setN, if_true, if_false, reduceIte]) <;> (repeat' split) <;> first | rfl | (exfalso; omega) | exact cap_at (by omega) rfl rfl | omega) (by clear hret hw hl M hK hZ hx hb; intro b9 hb1; rw [hN22] at hb1; (try simp only [setN, setN, if_true, if_false, reduceIte]) <;> (repeat' split) <;> first | rfl | (exfalso; omega) | exact pck_at (by omega) rfl rfl | omega) (by clear hret hw hl M hK hZ hx hb; intro b9 k9 hb1 hk9; rw [hN22] at hb1; (try simp only [setN, setN, if_true, if_false, reduceIte]) <;> (repeat' split) <;> first | rfl | (exfalso; omega) | exact val_at (by omega) (by omega) rfl rfl | omega) (by clear hret hw hl M hK hZ hx hb; intro b9 k9 hb1 hk9; rw [hN22] at hb1; (try simp only [setN, setN, if_true, if_false, reduceIte]) <;> (repeat' split) <;> first | rfl | (exfalso; omega) | exact dem_at (by omega) (by omega) rfl rfl | omega) (by clear hret hw hl M hK hZ hx hb; intro b9 i9 k9 hb1 hi9 h39 hk9; rw [hN22] at hb1; simp only [setN, setN, if_true, if_false, reduceIte] at hi9; (try simp only [setN, setN, if_true, if_false, reduceIte]) <;> (repeat' split at hi9) <;> (repeat' split) <;> first | rfl | (exfalso; omega) | exact lot_at (by omega) (by omega) (by omega) (by omega) rfl rfl | omega) (by clear hret hw hl M hK hZ hx hb; intro b9 i9 hb1 hi9 h39; rw [hN22] at hb1; simp only [setN, setN, if_true, if_false, reduceIte] at hi9; (try simp only [setN, setN, if_true, if_false, reduceIte]) <;> (repeat' split at hi9) <;> (repeat' split) <;> first | rfl | (exfalso; omega) | exact wor_at (by omega) (by omega) (by omega) rfl rfl | omega)
              have hw : xW G A s.heap [aucW Y h (setN (setN (cl1 ρ) 1 1) 0 (ρ 0 + 1)) γ23] H locs := hw
              rw [← hM] at hw
              exact hret _ _ _ (nI 0) _ _ dX1_closeRound_107 hw rfl rfl ⟨by rw [hSc], _, rfl⟩
            refine lv_iinc (v := (nI 1)) (lv' := [(1, .int (nI 1)), (2, .int (nI 2)), (0, .ref h)]) hx hb dX1_closeRound_69 hl (k := 1) rfl (by decide) (by decide) rfl (fun ls hl => ?_)
            refine lv_aload_n hx hb dX1_closeRound_72 rfl (lv_at hl 2 rfl) ?_
            refine lv_iload_n hx hb dX1_closeRound_73 rfl (lv_at hl 1 rfl) ?_
            refine x_cVV (As := [.int (nI 2)]) (k_X1_raisePrice l G Y h 2 (cl1 ρ) γi (hI1) (by omega)) cw_X1_124 [0] 0 0 M hK hZ hw hl.1 rfl (by decide) rfl rfl rfl ⟨by decide, by decide⟩ ⟨Nat.zero_le _, Nat.zero_le _⟩ rfl rfl (Nat.le_of_ble_eq_true rfl) dX1_closeRound_74 (fun sg h_24 H locs hw => ?_)
            obtain ⟨γa25, rfl⟩ := h_24
            have hw : xW G A s.heap [aucW Y h (mRaise (cl1 ρ) 2) γa25] H locs := hw
            have hI26 := Inv_raise hI1 (k := 2) (by decide)
            have : (mRaise (cl1 ρ) 2) 5 = (cl1 ρ) 5 := raise_o (by decide)
            have : askedOf (mRaise (cl1 ρ) 2) 0 = askedOf (cl1 ρ) 0 := asked_raise (by decide)
            have : (mRaise (cl1 ρ) 2) 6 = (cl1 ρ) 6 := raise_o (by decide)
            have : askedOf (mRaise (cl1 ρ) 2) 1 = askedOf (cl1 ρ) 1 := asked_raise (by decide)
            have : askedOf (mRaise (cl1 ρ) 2) 2 = askedOf (cl1 ρ) 2 := asked_raise (by decide)
            have : (mRaise (cl1 ρ) 2) 5 = (cl1 ρ) 5 := raise_o (by decide)
            have : (mRaise (cl1 ρ) 2) 0 = (cl1 ρ) 0 := raise_o (by decide)
            have : (mRaise (cl1 ρ) 2) 4 = (cl1 ρ) 4 := raise_o (by decide)
            refine lv_iinc (v := (nI 3)) (lv' := [(2, .int (nI 3)), (1, .int (nI 1)), (0, .ref h)]) hx hb dX1_closeRound_77 hl (k := 1) rfl (by decide) (by decide) rfl (fun ls hl => ?_)
            refine lv_goto (tgt := 50) hx hb dX1_closeRound_80 (by decide) ?_
            refine lv_iload_n hx hb dX1_closeRound_50 rfl (lv_at hl 0 rfl) ?_
            refine lv_iconst (v := (nI 3)) hx hb dX1_closeRound_51 (by decide) ?_
            refine x_cge M (tgt := 83) (by decide) (by decide) dX1_closeRound_52 (by decide) (fun c_27 => ?_) (fun c_27 => absurd c_27 (by decide))
            refine lv_aload_n hx hb dX1_closeRound_83 rfl (lv_at hl 2 rfl) ?_
            refine lv_dup hx hb dX1_closeRound_84 rfl ?_
            refine x_get M hK hw 0 0 rfl rfl ff_X1_49 rfl dX1_closeRound_85 ?_
            refine lv_iconst (v := (nI 1)) hx hb dX1_closeRound_88 (by decide) ?_
            refine x_iadd M (n := 1 + (mRaise (cl1 ρ) 2) 0) dX1_closeRound_89 (by omega) ?_
            refine x_put M hK hw 0 0 rfl rfl fp_X1_49 rfl rfl (Nat.le_of_ble_eq_true rfl) dX1_closeRound_90 (fun H locs hw => ?_)
            have hw : xW G A s.heap [aucR Y h (supF (mRaise (cl1 ρ) 2)) (ptsF (mRaise (cl1 ρ) 2)) (priF (mRaise (cl1 ρ) 2)) (rgtF (mRaise (cl1 ρ) 2) γa25) (capF (mRaise (cl1 ρ) 2) γa25) (pckF (mRaise (cl1 ρ) 2) γa25) (valF (mRaise (cl1 ρ) 2) γa25) (demF (mRaise (cl1 ρ) 2) γa25) (lotF (mRaise (cl1 ρ) 2) γa25) (worF (mRaise (cl1 ρ) 2) γa25) ((mRaise (cl1 ρ) 2) 4) (1 + (mRaise (cl1 ρ) 2) 0) ((mRaise (cl1 ρ) 2) 1) ((mRaise (cl1 ρ) 2) 2) ((mRaise (cl1 ρ) 2) 3)] H locs := hw
            refine lv_aload_n hx hb dX1_closeRound_93 rfl (lv_at hl 2 rfl) ?_
            refine lv_iload_n hx hb dX1_closeRound_94 rfl (lv_at hl 1 rfl) ?_
            refine x_zne M (tgt := 102) (by decide) dX1_closeRound_95 (by decide) (fun c_28 => ?_) (fun c_28 => absurd c_28 (by decide))
            refine lv_iconst (v := (nI 0)) hx hb dX1_closeRound_102 (by decide) ?_
            refine x_put M hK hw 0 0 rfl rfl fp_X1_52 rfl rfl (Nat.le_of_ble_eq_true rfl) dX1_closeRound_103 (fun H locs hw => ?_)
            have hw : xW G A s.heap [aucR Y h (supF (mRaise (cl1 ρ) 2)) (ptsF (mRaise (cl1 ρ) 2)) (priF (mRaise (cl1 ρ) 2)) (rgtF (mRaise (cl1 ρ) 2) γa25) (capF (mRaise (cl1 ρ) 2) γa25) (pckF (mRaise (cl1 ρ) 2) γa25) (valF (mRaise (cl1 ρ) 2) γa25) (demF (mRaise (cl1 ρ) 2) γa25) (lotF (mRaise (cl1 ρ) 2) γa25) (worF (mRaise (cl1 ρ) 2) γa25) ((mRaise (cl1 ρ) 2) 4) (1 + (mRaise (cl1 ρ) 2) 0) 0 ((mRaise (cl1 ρ) 2) 2) ((mRaise (cl1 ρ) 2) 3)] H locs := hw
            refine lv_iload_n hx hb dX1_closeRound_106 rfl (lv_at hl 1 rfl) ?_
            have hQ : clQ (cl1 ρ) = mRaise (cl1 ρ) 2 := by unfold clQ; rw [show clP (cl1 ρ) 0 = cl1 ρ from if_neg (Nat.not_lt.mpr c_7), show clP (cl1 ρ) 1 = cl1 ρ from if_neg (Nat.not_lt.mpr c_13), show clP (cl1 ρ) 2 = mRaise (cl1 ρ) 2 from if_pos c_19]
            have hSc : scarce (cl1 ρ) = 1 := by clear hret hw hl M hK hZ hx hb; simp only [scarce, scar, Nat.reduceAdd]; (repeat' split) <;> omega
            have hM : mClose ρ = setN (setN (mRaise (cl1 ρ) 2) 1 0) 0 (ρ 0 + 1) := by unfold mClose; rw [hQ, hSc]; rfl
            have hN29 : (setN (setN (mRaise (cl1 ρ) 2) 1 0) 0 (ρ 0 + 1)) 4 = (mRaise (cl1 ρ) 2) 4 := by clear hret hw hl M hK hZ hx hb; simp only [setN, setN, if_true, if_false, reduceIte] <;> (repeat' split) <;> first | rfl | (exfalso; omega) | omega
            obtain ⟨γ30, hw⟩ := auc_fold (i := 0) (ρ' := setN (setN (mRaise (cl1 ρ) 2) 1 0) 0 (ρ 0 + 1)) hw rfl hN29.symm (by clear hret hw hl M hK hZ hx hb; simp only [setN, setN, if_true, if_false, reduceIte] <;> (repeat' split) <;> first | rfl | (exfalso; omega) | omega) (by clear hret hw hl M hK hZ hx hb; simp only [setN, setN, if_true, if_false, reduceIte] <;> (repeat' split) <;> first | rfl | (exfalso; omega) | omega) (by clear hret hw hl M hK hZ hx hb; simp only [setN, setN, if_true, if_false, reduceIte] <;> (repeat' split) <;> first | rfl | (exfalso; omega) | omega) (by clear hret hw hl M hK hZ hx hb; simp only [setN, setN, if_true, if_false, reduceIte] <;> (repeat' split) <;> first | rfl | (exfalso; omega) | omega) (by clear hret hw hl M hK hZ hx hb; intro k9 hk9; (try simp only [setN, setN, if_true, if_false, reduceIte, supF]) <;> (repeat' split) <;> first | rfl | (exfalso; omega) | omega) (by clear hret hw hl M hK hZ hx hb; intro k9 hk9; (try simp only [setN, setN, if_true, if_false, reduceIte, ptsF]) <;> (repeat' split) <;> first | rfl | (exfalso; omega) | omega) (by clear hret hw hl M hK hZ hx hb; intro k9 hk9; (try simp only [setN, setN, if_true, if_false, reduceIte, priF]) <;> (repeat' split) <;> first | rfl | (exfalso; omega) | omega) (by clear hret hw hl M hK hZ hx hb; intro b9 hb1; rw [hN29] at hb1; (try simp only [setN, setN, if_true, if_false, reduceIte]) <;> (repeat' split) <;> first | rfl | (exfalso; omega) | exact rgt_at (by omega) rfl rfl | omega) (by clear hret hw hl M hK hZ hx hb; intro b9 hb1; rw [hN29] at hb1; (try simp only [setN, setN, if_true, if_false, reduceIte]) <;> (repeat' split) <;> first | rfl | (exfalso; omega) | exact cap_at (by omega) rfl rfl | omega) (by clear hret hw hl M hK hZ hx hb; intro b9 hb1; rw [hN29] at hb1; (try simp only [setN, setN, if_true, if_false, reduceIte]) <;> (repeat' split) <;> first | rfl | (exfalso; omega) | exact pck_at (by omega) rfl rfl | omega) (by clear hret hw hl M hK hZ hx hb; intro b9 k9 hb1 hk9; rw [hN29] at hb1; (try simp only [setN, setN, if_true, if_false, reduceIte]) <;> (repeat' split) <;> first | rfl | (exfalso; omega) | exact val_at (by omega) (by omega) rfl rfl | omega) (by clear hret hw hl M hK hZ hx hb; intro b9 k9 hb1 hk9; rw [hN29] at hb1; (try simp only [setN, setN, if_true, if_false, reduceIte]) <;> (repeat' split) <;> first | rfl | (exfalso; omega) | exact dem_at (by omega) (by omega) rfl rfl | omega) (by clear hret hw hl M hK hZ hx hb; intro b9 i9 k9 hb1 hi9 h39 hk9; rw [hN29] at hb1; simp only [setN, setN, if_true, if_false, reduceIte] at hi9; (try simp only [setN, setN, if_true, if_false, reduceIte]) <;> (repeat' split at hi9) <;> (repeat' split) <;> first | rfl | (exfalso; omega) | exact lot_at (by omega) (by omega) (by omega) (by omega) rfl rfl | omega) (by clear hret hw hl M hK hZ hx hb; intro b9 i9 hb1 hi9 h39; rw [hN29] at hb1; simp only [setN, setN, if_true, if_false, reduceIte] at hi9; (try simp only [setN, setN, if_true, if_false, reduceIte]) <;> (repeat' split at hi9) <;> (repeat' split) <;> first | rfl | (exfalso; omega) | exact wor_at (by omega) (by omega) (by omega) rfl rfl | omega)
            have hw : xW G A s.heap [aucW Y h (setN (setN (mRaise (cl1 ρ) 2) 1 0) 0 (ρ 0 + 1)) γ30] H locs := hw
            rw [← hM] at hw
            exact hret _ _ _ (nI 1) _ _ dX1_closeRound_107 hw rfl rfl ⟨by rw [hSc], _, rfl⟩
          refine lv_iinc (v := (nI 1)) (lv' := [(1, .int (nI 1)), (2, .int (nI 1)), (0, .ref h)]) hx hb dX1_closeRound_69 hl (k := 1) rfl (by decide) (by decide) rfl (fun ls hl => ?_)
          refine lv_aload_n hx hb dX1_closeRound_72 rfl (lv_at hl 2 rfl) ?_
          refine lv_iload_n hx hb dX1_closeRound_73 rfl (lv_at hl 1 rfl) ?_
          refine x_cVV (As := [.int (nI 1)]) (k_X1_raisePrice l G Y h 1 (cl1 ρ) γi (hI1) (by omega)) cw_X1_124 [0] 0 0 M hK hZ hw hl.1 rfl (by decide) rfl rfl rfl ⟨by decide, by decide⟩ ⟨Nat.zero_le _, Nat.zero_le _⟩ rfl rfl (Nat.le_of_ble_eq_true rfl) dX1_closeRound_74 (fun sg h_31 H locs hw => ?_)
          obtain ⟨γa32, rfl⟩ := h_31
          have hw : xW G A s.heap [aucW Y h (mRaise (cl1 ρ) 1) γa32] H locs := hw
          have hI33 := Inv_raise hI1 (k := 1) (by decide)
          have : (mRaise (cl1 ρ) 1) 5 = (cl1 ρ) 5 := raise_o (by decide)
          have : askedOf (mRaise (cl1 ρ) 1) 0 = askedOf (cl1 ρ) 0 := asked_raise (by decide)
          have : askedOf (mRaise (cl1 ρ) 1) 1 = askedOf (cl1 ρ) 1 := asked_raise (by decide)
          have : (mRaise (cl1 ρ) 1) 7 = (cl1 ρ) 7 := raise_o (by decide)
          have : askedOf (mRaise (cl1 ρ) 1) 2 = askedOf (cl1 ρ) 2 := asked_raise (by decide)
          have : (mRaise (cl1 ρ) 1) 5 = (cl1 ρ) 5 := raise_o (by decide)
          have : (mRaise (cl1 ρ) 1) 0 = (cl1 ρ) 0 := raise_o (by decide)
          have : (mRaise (cl1 ρ) 1) 4 = (cl1 ρ) 4 := raise_o (by decide)
          refine lv_iinc (v := (nI 2)) (lv' := [(2, .int (nI 2)), (1, .int (nI 1)), (0, .ref h)]) hx hb dX1_closeRound_77 hl (k := 1) rfl (by decide) (by decide) rfl (fun ls hl => ?_)
          refine lv_goto (tgt := 50) hx hb dX1_closeRound_80 (by decide) ?_
          refine lv_iload_n hx hb dX1_closeRound_50 rfl (lv_at hl 0 rfl) ?_
          refine lv_iconst (v := (nI 3)) hx hb dX1_closeRound_51 (by decide) ?_
          refine x_cge M (tgt := 83) (by decide) (by decide) dX1_closeRound_52 (by decide) (fun c_34 => absurd c_34 (by decide)) (fun c_34 => ?_)
          refine lv_aload_n hx hb dX1_closeRound_55 rfl (lv_at hl 2 rfl) ?_
          refine lv_iload_n hx hb dX1_closeRound_56 rfl (lv_at hl 0 rfl) ?_
          refine x_cVI (As := [.int (nI 2)]) (k_X1_askedOf l G Y h 2 (mRaise (cl1 ρ) 1) γa32 (hI33) (by omega)) cw_X1_76 [0] 0 0 M hK hZ hw hl.1 rfl (by decide) rfl rfl rfl ⟨by decide, by decide⟩ ⟨Nat.zero_le _, Nat.zero_le _⟩ rfl rfl (Nat.le_of_ble_eq_true rfl) dX1_closeRound_57 (fun r sg h_35 H locs hw => ?_)
          obtain ⟨rfl, rfl⟩ := h_35
          have hw : xW G A s.heap [aucW Y h (mRaise (cl1 ρ) 1) γa32] H locs := hw
          have q_36 : askedOf (mRaise (cl1 ρ) 1) 2 ≤ 54 := askedOf_le hI33 (by omega)
          refine lv_aload_n hx hb dX1_closeRound_60 rfl (lv_at hl 2 rfl) ?_
          refine x_get M hK hw 0 0 rfl rfl ff_X1_9 rfl dX1_closeRound_61 ?_
          refine lv_iload_n hx hb dX1_closeRound_64 rfl (lv_at hl 0 rfl) ?_
          refine x_iald M hK hw 0 1 rfl rfl (by decide) (by decide) dX1_closeRound_65 ?_
          refine x_topN (n := (mRaise (cl1 ρ) 1) 7) rfl ?_
          have q_37 : 1 ≤ (mRaise (cl1 ρ) 1) 7 := (hI33.sup (q := 7) (k := 2) (by decide) rfl).1
          have q_38 : (mRaise (cl1 ρ) 1) 7 ≤ 9 := (hI33.sup (q := 7) (k := 2) (by decide) rfl).2
          refine x_cle M (tgt := 77) (by omega) (by omega) dX1_closeRound_66 (by decide) (fun c_39 => ?_) (fun c_39 => ?_)
          · refine lv_iinc (v := (nI 3)) (lv' := [(2, .int (nI 3)), (1, .int (nI 1)), (0, .ref h)]) hx hb dX1_closeRound_77 hl (k := 0) rfl (by decide) (by decide) rfl (fun ls hl => ?_)
            refine lv_goto (tgt := 50) hx hb dX1_closeRound_80 (by decide) ?_
            refine lv_iload_n hx hb dX1_closeRound_50 rfl (lv_at hl 0 rfl) ?_
            refine lv_iconst (v := (nI 3)) hx hb dX1_closeRound_51 (by decide) ?_
            refine x_cge M (tgt := 83) (by decide) (by decide) dX1_closeRound_52 (by decide) (fun c_40 => ?_) (fun c_40 => absurd c_40 (by decide))
            refine lv_aload_n hx hb dX1_closeRound_83 rfl (lv_at hl 2 rfl) ?_
            refine lv_dup hx hb dX1_closeRound_84 rfl ?_
            refine x_get M hK hw 0 0 rfl rfl ff_X1_49 rfl dX1_closeRound_85 ?_
            refine lv_iconst (v := (nI 1)) hx hb dX1_closeRound_88 (by decide) ?_
            refine x_iadd M (n := 1 + (mRaise (cl1 ρ) 1) 0) dX1_closeRound_89 (by omega) ?_
            refine x_put M hK hw 0 0 rfl rfl fp_X1_49 rfl rfl (Nat.le_of_ble_eq_true rfl) dX1_closeRound_90 (fun H locs hw => ?_)
            have hw : xW G A s.heap [aucR Y h (supF (mRaise (cl1 ρ) 1)) (ptsF (mRaise (cl1 ρ) 1)) (priF (mRaise (cl1 ρ) 1)) (rgtF (mRaise (cl1 ρ) 1) γa32) (capF (mRaise (cl1 ρ) 1) γa32) (pckF (mRaise (cl1 ρ) 1) γa32) (valF (mRaise (cl1 ρ) 1) γa32) (demF (mRaise (cl1 ρ) 1) γa32) (lotF (mRaise (cl1 ρ) 1) γa32) (worF (mRaise (cl1 ρ) 1) γa32) ((mRaise (cl1 ρ) 1) 4) (1 + (mRaise (cl1 ρ) 1) 0) ((mRaise (cl1 ρ) 1) 1) ((mRaise (cl1 ρ) 1) 2) ((mRaise (cl1 ρ) 1) 3)] H locs := hw
            refine lv_aload_n hx hb dX1_closeRound_93 rfl (lv_at hl 2 rfl) ?_
            refine lv_iload_n hx hb dX1_closeRound_94 rfl (lv_at hl 1 rfl) ?_
            refine x_zne M (tgt := 102) (by decide) dX1_closeRound_95 (by decide) (fun c_41 => ?_) (fun c_41 => absurd c_41 (by decide))
            refine lv_iconst (v := (nI 0)) hx hb dX1_closeRound_102 (by decide) ?_
            refine x_put M hK hw 0 0 rfl rfl fp_X1_52 rfl rfl (Nat.le_of_ble_eq_true rfl) dX1_closeRound_103 (fun H locs hw => ?_)
            have hw : xW G A s.heap [aucR Y h (supF (mRaise (cl1 ρ) 1)) (ptsF (mRaise (cl1 ρ) 1)) (priF (mRaise (cl1 ρ) 1)) (rgtF (mRaise (cl1 ρ) 1) γa32) (capF (mRaise (cl1 ρ) 1) γa32) (pckF (mRaise (cl1 ρ) 1) γa32) (valF (mRaise (cl1 ρ) 1) γa32) (demF (mRaise (cl1 ρ) 1) γa32) (lotF (mRaise (cl1 ρ) 1) γa32) (worF (mRaise (cl1 ρ) 1) γa32) ((mRaise (cl1 ρ) 1) 4) (1 + (mRaise (cl1 ρ) 1) 0) 0 ((mRaise (cl1 ρ) 1) 2) ((mRaise (cl1 ρ) 1) 3)] H locs := hw
            refine lv_iload_n hx hb dX1_closeRound_106 rfl (lv_at hl 1 rfl) ?_
            have hQ : clQ (cl1 ρ) = mRaise (cl1 ρ) 1 := by unfold clQ; rw [show clP (cl1 ρ) 0 = cl1 ρ from if_neg (Nat.not_lt.mpr c_7), show clP (cl1 ρ) 1 = mRaise (cl1 ρ) 1 from if_pos c_13, show clP (mRaise (cl1 ρ) 1) 2 = mRaise (cl1 ρ) 1 from if_neg (Nat.not_lt.mpr c_39)]
            have hSc : scarce (cl1 ρ) = 1 := by clear hret hw hl M hK hZ hx hb; simp only [scarce, scar, Nat.reduceAdd]; (repeat' split) <;> omega
            have hM : mClose ρ = setN (setN (mRaise (cl1 ρ) 1) 1 0) 0 (ρ 0 + 1) := by unfold mClose; rw [hQ, hSc]; rfl
            have hN42 : (setN (setN (mRaise (cl1 ρ) 1) 1 0) 0 (ρ 0 + 1)) 4 = (mRaise (cl1 ρ) 1) 4 := by clear hret hw hl M hK hZ hx hb; simp only [setN, setN, if_true, if_false, reduceIte] <;> (repeat' split) <;> first | rfl | (exfalso; omega) | omega
            obtain ⟨γ43, hw⟩ := auc_fold (i := 0) (ρ' := setN (setN (mRaise (cl1 ρ) 1) 1 0) 0 (ρ 0 + 1)) hw rfl hN42.symm (by clear hret hw hl M hK hZ hx hb; simp only [setN, setN, if_true, if_false, reduceIte] <;> (repeat' split) <;> first | rfl | (exfalso; omega) | omega) (by clear hret hw hl M hK hZ hx hb; simp only [setN, setN, if_true, if_false, reduceIte] <;> (repeat' split) <;> first | rfl | (exfalso; omega) | omega) (by clear hret hw hl M hK hZ hx hb; simp only [setN, setN, if_true, if_false, reduceIte] <;> (repeat' split) <;> first | rfl | (exfalso; omega) | omega) (by clear hret hw hl M hK hZ hx hb; simp only [setN, setN, if_true, if_false, reduceIte] <;> (repeat' split) <;> first | rfl | (exfalso; omega) | omega) (by clear hret hw hl M hK hZ hx hb; intro k9 hk9; (try simp only [setN, setN, if_true, if_false, reduceIte, supF]) <;> (repeat' split) <;> first | rfl | (exfalso; omega) | omega) (by clear hret hw hl M hK hZ hx hb; intro k9 hk9; (try simp only [setN, setN, if_true, if_false, reduceIte, ptsF]) <;> (repeat' split) <;> first | rfl | (exfalso; omega) | omega) (by clear hret hw hl M hK hZ hx hb; intro k9 hk9; (try simp only [setN, setN, if_true, if_false, reduceIte, priF]) <;> (repeat' split) <;> first | rfl | (exfalso; omega) | omega) (by clear hret hw hl M hK hZ hx hb; intro b9 hb1; rw [hN42] at hb1; (try simp only [setN, setN, if_true, if_false, reduceIte]) <;> (repeat' split) <;> first | rfl | (exfalso; omega) | exact rgt_at (by omega) rfl rfl | omega) (by clear hret hw hl M hK hZ hx hb; intro b9 hb1; rw [hN42] at hb1; (try simp only [setN, setN, if_true, if_false, reduceIte]) <;> (repeat' split) <;> first | rfl | (exfalso; omega) | exact cap_at (by omega) rfl rfl | omega) (by clear hret hw hl M hK hZ hx hb; intro b9 hb1; rw [hN42] at hb1; (try simp only [setN, setN, if_true, if_false, reduceIte]) <;> (repeat' split) <;> first | rfl | (exfalso; omega) | exact pck_at (by omega) rfl rfl | omega) (by clear hret hw hl M hK hZ hx hb; intro b9 k9 hb1 hk9; rw [hN42] at hb1; (try simp only [setN, setN, if_true, if_false, reduceIte]) <;> (repeat' split) <;> first | rfl | (exfalso; omega) | exact val_at (by omega) (by omega) rfl rfl | omega) (by clear hret hw hl M hK hZ hx hb; intro b9 k9 hb1 hk9; rw [hN42] at hb1; (try simp only [setN, setN, if_true, if_false, reduceIte]) <;> (repeat' split) <;> first | rfl | (exfalso; omega) | exact dem_at (by omega) (by omega) rfl rfl | omega) (by clear hret hw hl M hK hZ hx hb; intro b9 i9 k9 hb1 hi9 h39 hk9; rw [hN42] at hb1; simp only [setN, setN, if_true, if_false, reduceIte] at hi9; (try simp only [setN, setN, if_true, if_false, reduceIte]) <;> (repeat' split at hi9) <;> (repeat' split) <;> first | rfl | (exfalso; omega) | exact lot_at (by omega) (by omega) (by omega) (by omega) rfl rfl | omega) (by clear hret hw hl M hK hZ hx hb; intro b9 i9 hb1 hi9 h39; rw [hN42] at hb1; simp only [setN, setN, if_true, if_false, reduceIte] at hi9; (try simp only [setN, setN, if_true, if_false, reduceIte]) <;> (repeat' split at hi9) <;> (repeat' split) <;> first | rfl | (exfalso; omega) | exact wor_at (by omega) (by omega) (by omega) rfl rfl | omega)
            have hw : xW G A s.heap [aucW Y h (setN (setN (mRaise (cl1 ρ) 1) 1 0) 0 (ρ 0 + 1)) γ43] H locs := hw
            rw [← hM] at hw
            exact hret _ _ _ (nI 1) _ _ dX1_closeRound_107 hw rfl rfl ⟨by rw [hSc], _, rfl⟩
          refine lv_iinc (v := (nI 2)) (lv' := [(1, .int (nI 2)), (2, .int (nI 2)), (0, .ref h)]) hx hb dX1_closeRound_69 hl (k := 1) rfl (by decide) (by decide) rfl (fun ls hl => ?_)
          refine lv_aload_n hx hb dX1_closeRound_72 rfl (lv_at hl 2 rfl) ?_
          refine lv_iload_n hx hb dX1_closeRound_73 rfl (lv_at hl 1 rfl) ?_
          refine x_cVV (As := [.int (nI 2)]) (k_X1_raisePrice l G Y h 2 (mRaise (cl1 ρ) 1) γa32 (hI33) (by omega)) cw_X1_124 [0] 0 0 M hK hZ hw hl.1 rfl (by decide) rfl rfl rfl ⟨by decide, by decide⟩ ⟨Nat.zero_le _, Nat.zero_le _⟩ rfl rfl (Nat.le_of_ble_eq_true rfl) dX1_closeRound_74 (fun sg h_44 H locs hw => ?_)
          obtain ⟨γa45, rfl⟩ := h_44
          have hw : xW G A s.heap [aucW Y h (mRaise (mRaise (cl1 ρ) 1) 2) γa45] H locs := hw
          have hI46 := Inv_raise hI33 (k := 2) (by decide)
          have : (mRaise (mRaise (cl1 ρ) 1) 2) 5 = (mRaise (cl1 ρ) 1) 5 := raise_o (by decide)
          have : askedOf (mRaise (mRaise (cl1 ρ) 1) 2) 0 = askedOf (mRaise (cl1 ρ) 1) 0 := asked_raise (by decide)
          have : (mRaise (mRaise (cl1 ρ) 1) 2) 6 = (mRaise (cl1 ρ) 1) 6 := raise_o (by decide)
          have : askedOf (mRaise (mRaise (cl1 ρ) 1) 2) 1 = askedOf (mRaise (cl1 ρ) 1) 1 := asked_raise (by decide)
          have : askedOf (mRaise (mRaise (cl1 ρ) 1) 2) 2 = askedOf (mRaise (cl1 ρ) 1) 2 := asked_raise (by decide)
          have : (mRaise (mRaise (cl1 ρ) 1) 2) 5 = (mRaise (cl1 ρ) 1) 5 := raise_o (by decide)
          have : (mRaise (mRaise (cl1 ρ) 1) 2) 0 = (mRaise (cl1 ρ) 1) 0 := raise_o (by decide)
          have : (mRaise (mRaise (cl1 ρ) 1) 2) 4 = (mRaise (cl1 ρ) 1) 4 := raise_o (by decide)
          refine lv_iinc (v := (nI 3)) (lv' := [(2, .int (nI 3)), (1, .int (nI 2)), (0, .ref h)]) hx hb dX1_closeRound_77 hl (k := 1) rfl (by decide) (by decide) rfl (fun ls hl => ?_)
          refine lv_goto (tgt := 50) hx hb dX1_closeRound_80 (by decide) ?_
          refine lv_iload_n hx hb dX1_closeRound_50 rfl (lv_at hl 0 rfl) ?_
          refine lv_iconst (v := (nI 3)) hx hb dX1_closeRound_51 (by decide) ?_
          refine x_cge M (tgt := 83) (by decide) (by decide) dX1_closeRound_52 (by decide) (fun c_47 => ?_) (fun c_47 => absurd c_47 (by decide))
          refine lv_aload_n hx hb dX1_closeRound_83 rfl (lv_at hl 2 rfl) ?_
          refine lv_dup hx hb dX1_closeRound_84 rfl ?_
          refine x_get M hK hw 0 0 rfl rfl ff_X1_49 rfl dX1_closeRound_85 ?_
          refine lv_iconst (v := (nI 1)) hx hb dX1_closeRound_88 (by decide) ?_
          refine x_iadd M (n := 1 + (mRaise (mRaise (cl1 ρ) 1) 2) 0) dX1_closeRound_89 (by omega) ?_
          refine x_put M hK hw 0 0 rfl rfl fp_X1_49 rfl rfl (Nat.le_of_ble_eq_true rfl) dX1_closeRound_90 (fun H locs hw => ?_)
          have hw : xW G A s.heap [aucR Y h (supF (mRaise (mRaise (cl1 ρ) 1) 2)) (ptsF (mRaise (mRaise (cl1 ρ) 1) 2)) (priF (mRaise (mRaise (cl1 ρ) 1) 2)) (rgtF (mRaise (mRaise (cl1 ρ) 1) 2) γa45) (capF (mRaise (mRaise (cl1 ρ) 1) 2) γa45) (pckF (mRaise (mRaise (cl1 ρ) 1) 2) γa45) (valF (mRaise (mRaise (cl1 ρ) 1) 2) γa45) (demF (mRaise (mRaise (cl1 ρ) 1) 2) γa45) (lotF (mRaise (mRaise (cl1 ρ) 1) 2) γa45) (worF (mRaise (mRaise (cl1 ρ) 1) 2) γa45) ((mRaise (mRaise (cl1 ρ) 1) 2) 4) (1 + (mRaise (mRaise (cl1 ρ) 1) 2) 0) ((mRaise (mRaise (cl1 ρ) 1) 2) 1) ((mRaise (mRaise (cl1 ρ) 1) 2) 2) ((mRaise (mRaise (cl1 ρ) 1) 2) 3)] H locs := hw
          refine lv_aload_n hx hb dX1_closeRound_93 rfl (lv_at hl 2 rfl) ?_
          refine lv_iload_n hx hb dX1_closeRound_94 rfl (lv_at hl 1 rfl) ?_
          refine x_zne M (tgt := 102) (by decide) dX1_closeRound_95 (by decide) (fun c_48 => ?_) (fun c_48 => absurd c_48 (by decide))
          refine lv_iconst (v := (nI 0)) hx hb dX1_closeRound_102 (by decide) ?_
          refine x_put M hK hw 0 0 rfl rfl fp_X1_52 rfl rfl (Nat.le_of_ble_eq_true rfl) dX1_closeRound_103 (fun H locs hw => ?_)
          have hw : xW G A s.heap [aucR Y h (supF (mRaise (mRaise (cl1 ρ) 1) 2)) (ptsF (mRaise (mRaise (cl1 ρ) 1) 2)) (priF (mRaise (mRaise (cl1 ρ) 1) 2)) (rgtF (mRaise (mRaise (cl1 ρ) 1) 2) γa45) (capF (mRaise (mRaise (cl1 ρ) 1) 2) γa45) (pckF (mRaise (mRaise (cl1 ρ) 1) 2) γa45) (valF (mRaise (mRaise (cl1 ρ) 1) 2) γa45) (demF (mRaise (mRaise (cl1 ρ) 1) 2) γa45) (lotF (mRaise (mRaise (cl1 ρ) 1) 2) γa45) (worF (mRaise (mRaise (cl1 ρ) 1) 2) γa45) ((mRaise (mRaise (cl1 ρ) 1) 2) 4) (1 + (mRaise (mRaise (cl1 ρ) 1) 2) 0) 0 ((mRaise (mRaise (cl1 ρ) 1) 2) 2) ((mRaise (mRaise (cl1 ρ) 1) 2) 3)] H locs := hw
          refine lv_iload_n hx hb dX1_closeRound_106 rfl (lv_at hl 1 rfl) ?_
          have hQ : clQ (cl1 ρ) = mRaise (mRaise (cl1 ρ) 1) 2 := by unfold clQ; rw [show clP (cl1 ρ) 0 = cl1 ρ from if_neg (Nat.not_lt.mpr c_7), show clP (cl1 ρ) 1 = mRaise (cl1 ρ) 1 from if_pos c_13, show clP (mRaise (cl1 ρ) 1) 2 = mRaise (mRaise (cl1 ρ) 1) 2 from if_pos c_39]
          have hSc : scarce (cl1 ρ) = 2 := by clear hret hw hl M hK hZ hx hb; simp only [scarce, scar, Nat.reduceAdd]; (repeat' split) <;> omega
          have hM : mClose ρ = setN (setN (mRaise (mRaise (cl1 ρ) 1) 2) 1 0) 0 (ρ 0 + 1) := by unfold mClose; rw [hQ, hSc]; rfl
          have hN49 : (setN (setN (mRaise (mRaise (cl1 ρ) 1) 2) 1 0) 0 (ρ 0 + 1)) 4 = (mRaise (mRaise (cl1 ρ) 1) 2) 4 := by clear hret hw hl M hK hZ hx hb; simp only [setN, setN, if_true, if_false, reduceIte] <;> (repeat' split) <;> first | rfl | (exfalso; omega) | omega
          obtain ⟨γ50, hw⟩ := auc_fold (i := 0) (ρ' := setN (setN (mRaise (mRaise (cl1 ρ) 1) 2) 1 0) 0 (ρ 0 + 1)) hw rfl hN49.symm (by clear hret hw hl M hK hZ hx hb; simp only [setN, setN, if_true, if_false, reduceIte] <;> (repeat' split) <;> first | rfl | (exfalso; omega) | omega) (by clear hret hw hl M hK hZ hx hb; simp only [setN, setN, if_true, if_false, reduceIte] <;> (repeat' split) <;> first | rfl | (exfalso; omega) | omega) (by clear hret hw hl M hK hZ hx hb; simp only [setN, setN, if_true, if_false, reduceIte] <;> (repeat' split) <;> first | rfl | (exfalso; omega) | omega) (by clear hret hw hl M hK hZ hx hb; simp only [setN, setN, if_true, if_false, reduceIte] <;> (repeat' split) <;> first | rfl | (exfalso; omega) | omega) (by clear hret hw hl M hK hZ hx hb; intro k9 hk9; (try simp only [setN, setN, if_true, if_false, reduceIte, supF]) <;> (repeat' split) <;> first | rfl | (exfalso; omega) | omega) (by clear hret hw hl M hK hZ hx hb; intro k9 hk9; (try simp only [setN, setN, if_true, if_false, reduceIte, ptsF]) <;> (repeat' split) <;> first | rfl | (exfalso; omega) | omega) (by clear hret hw hl M hK hZ hx hb; intro k9 hk9; (try simp only [setN, setN, if_true, if_false, reduceIte, priF]) <;> (repeat' split) <;> first | rfl | (exfalso; omega) | omega) (by clear hret hw hl M hK hZ hx hb; intro b9 hb1; rw [hN49] at hb1; (try simp only [setN, setN, if_true, if_false, reduceIte]) <;> (repeat' split) <;> first | rfl | (exfalso; omega) | exact rgt_at (by omega) rfl rfl | omega) (by clear hret hw hl M hK hZ hx hb; intro b9 hb1; rw [hN49] at hb1; (try simp only [setN, setN, if_true, if_false, reduceIte]) <;> (repeat' split) <;> first | rfl | (exfalso; omega) | exact cap_at (by omega) rfl rfl | omega) (by clear hret hw hl M hK hZ hx hb; intro b9 hb1; rw [hN49] at hb1; (try simp only [setN, setN, if_true, if_false, reduceIte]) <;> (repeat' split) <;> first | rfl | (exfalso; omega) | exact pck_at (by omega) rfl rfl | omega) (by clear hret hw hl M hK hZ hx hb; intro b9 k9 hb1 hk9; rw [hN49] at hb1; (try simp only [setN, setN, if_true, if_false, reduceIte]) <;> (repeat' split) <;> first | rfl | (exfalso; omega) | exact val_at (by omega) (by omega) rfl rfl | omega) (by clear hret hw hl M hK hZ hx hb; intro b9 k9 hb1 hk9; rw [hN49] at hb1; (try simp only [setN, setN, if_true, if_false, reduceIte]) <;> (repeat' split) <;> first | rfl | (exfalso; omega) | exact dem_at (by omega) (by omega) rfl rfl | omega) (by clear hret hw hl M hK hZ hx hb; intro b9 i9 k9 hb1 hi9 h39 hk9; rw [hN49] at hb1; simp only [setN, setN, if_true, if_false, reduceIte] at hi9; (try simp only [setN, setN, if_true, if_false, reduceIte]) <;> (repeat' split at hi9) <;> (repeat' split) <;> first | rfl | (exfalso; omega) | exact lot_at (by omega) (by omega) (by omega) (by omega) rfl rfl | omega) (by clear hret hw hl M hK hZ hx hb; intro b9 i9 hb1 hi9 h39; rw [hN49] at hb1; simp only [setN, setN, if_true, if_false, reduceIte] at hi9; (try simp only [setN, setN, if_true, if_false, reduceIte]) <;> (repeat' split at hi9) <;> (repeat' split) <;> first | rfl | (exfalso; omega) | exact wor_at (by omega) (by omega) (by omega) rfl rfl | omega)
          have hw : xW G A s.heap [aucW Y h (setN (setN (mRaise (mRaise (cl1 ρ) 1) 2) 1 0) 0 (ρ 0 + 1)) γ50] H locs := hw
          rw [← hM] at hw
          exact hret _ _ _ (nI 2) _ _ dX1_closeRound_107 hw rfl rfl ⟨by rw [hSc], _, rfl⟩
        refine lv_iinc (v := (nI 1)) (lv' := [(1, .int (nI 1)), (2, .int (nI 0)), (0, .ref h)]) hx hb dX1_closeRound_69 hl (k := 1) rfl (by decide) (by decide) rfl (fun ls hl => ?_)
        refine lv_aload_n hx hb dX1_closeRound_72 rfl (lv_at hl 2 rfl) ?_
        refine lv_iload_n hx hb dX1_closeRound_73 rfl (lv_at hl 1 rfl) ?_
        refine x_cVV (As := [.int (nI 0)]) (k_X1_raisePrice l G Y h 0 (cl1 ρ) γi (hI1) (by omega)) cw_X1_124 [0] 0 0 M hK hZ hw hl.1 rfl (by decide) rfl rfl rfl ⟨by decide, by decide⟩ ⟨Nat.zero_le _, Nat.zero_le _⟩ rfl rfl (Nat.le_of_ble_eq_true rfl) dX1_closeRound_74 (fun sg h_51 H locs hw => ?_)
        obtain ⟨γa52, rfl⟩ := h_51
        have hw : xW G A s.heap [aucW Y h (mRaise (cl1 ρ) 0) γa52] H locs := hw
        have hI53 := Inv_raise hI1 (k := 0) (by decide)
        have : askedOf (mRaise (cl1 ρ) 0) 0 = askedOf (cl1 ρ) 0 := asked_raise (by decide)
        have : (mRaise (cl1 ρ) 0) 6 = (cl1 ρ) 6 := raise_o (by decide)
        have : askedOf (mRaise (cl1 ρ) 0) 1 = askedOf (cl1 ρ) 1 := asked_raise (by decide)
        have : (mRaise (cl1 ρ) 0) 7 = (cl1 ρ) 7 := raise_o (by decide)
        have : askedOf (mRaise (cl1 ρ) 0) 2 = askedOf (cl1 ρ) 2 := asked_raise (by decide)
        have : (mRaise (cl1 ρ) 0) 5 = (cl1 ρ) 5 := raise_o (by decide)
        have : (mRaise (cl1 ρ) 0) 0 = (cl1 ρ) 0 := raise_o (by decide)
        have : (mRaise (cl1 ρ) 0) 4 = (cl1 ρ) 4 := raise_o (by decide)
        refine lv_iinc (v := (nI 1)) (lv' := [(2, .int (nI 1)), (1, .int (nI 1)), (0, .ref h)]) hx hb dX1_closeRound_77 hl (k := 1) rfl (by decide) (by decide) rfl (fun ls hl => ?_)
        refine lv_goto (tgt := 50) hx hb dX1_closeRound_80 (by decide) ?_
        refine lv_iload_n hx hb dX1_closeRound_50 rfl (lv_at hl 0 rfl) ?_
        refine lv_iconst (v := (nI 3)) hx hb dX1_closeRound_51 (by decide) ?_
        refine x_cge M (tgt := 83) (by decide) (by decide) dX1_closeRound_52 (by decide) (fun c_54 => absurd c_54 (by decide)) (fun c_54 => ?_)
        refine lv_aload_n hx hb dX1_closeRound_55 rfl (lv_at hl 2 rfl) ?_
        refine lv_iload_n hx hb dX1_closeRound_56 rfl (lv_at hl 0 rfl) ?_
        refine x_cVI (As := [.int (nI 1)]) (k_X1_askedOf l G Y h 1 (mRaise (cl1 ρ) 0) γa52 (hI53) (by omega)) cw_X1_76 [0] 0 0 M hK hZ hw hl.1 rfl (by decide) rfl rfl rfl ⟨by decide, by decide⟩ ⟨Nat.zero_le _, Nat.zero_le _⟩ rfl rfl (Nat.le_of_ble_eq_true rfl) dX1_closeRound_57 (fun r sg h_55 H locs hw => ?_)
        obtain ⟨rfl, rfl⟩ := h_55
        have hw : xW G A s.heap [aucW Y h (mRaise (cl1 ρ) 0) γa52] H locs := hw
        have q_56 : askedOf (mRaise (cl1 ρ) 0) 1 ≤ 54 := askedOf_le hI53 (by omega)
        refine lv_aload_n hx hb dX1_closeRound_60 rfl (lv_at hl 2 rfl) ?_
        refine x_get M hK hw 0 0 rfl rfl ff_X1_9 rfl dX1_closeRound_61 ?_
        refine lv_iload_n hx hb dX1_closeRound_64 rfl (lv_at hl 0 rfl) ?_
        refine x_iald M hK hw 0 1 rfl rfl (by decide) (by decide) dX1_closeRound_65 ?_
        refine x_topN (n := (mRaise (cl1 ρ) 0) 6) rfl ?_
        have q_57 : 1 ≤ (mRaise (cl1 ρ) 0) 6 := (hI53.sup (q := 6) (k := 1) (by decide) rfl).1
        have q_58 : (mRaise (cl1 ρ) 0) 6 ≤ 9 := (hI53.sup (q := 6) (k := 1) (by decide) rfl).2
        refine x_cle M (tgt := 77) (by omega) (by omega) dX1_closeRound_66 (by decide) (fun c_59 => ?_) (fun c_59 => ?_)
        · refine lv_iinc (v := (nI 2)) (lv' := [(2, .int (nI 2)), (1, .int (nI 1)), (0, .ref h)]) hx hb dX1_closeRound_77 hl (k := 0) rfl (by decide) (by decide) rfl (fun ls hl => ?_)
          refine lv_goto (tgt := 50) hx hb dX1_closeRound_80 (by decide) ?_
          refine lv_iload_n hx hb dX1_closeRound_50 rfl (lv_at hl 0 rfl) ?_
          refine lv_iconst (v := (nI 3)) hx hb dX1_closeRound_51 (by decide) ?_
          refine x_cge M (tgt := 83) (by decide) (by decide) dX1_closeRound_52 (by decide) (fun c_60 => absurd c_60 (by decide)) (fun c_60 => ?_)
          refine lv_aload_n hx hb dX1_closeRound_55 rfl (lv_at hl 2 rfl) ?_
          refine lv_iload_n hx hb dX1_closeRound_56 rfl (lv_at hl 0 rfl) ?_
          refine x_cVI (As := [.int (nI 2)]) (k_X1_askedOf l G Y h 2 (mRaise (cl1 ρ) 0) γa52 (hI53) (by omega)) cw_X1_76 [0] 0 0 M hK hZ hw hl.1 rfl (by decide) rfl rfl rfl ⟨by decide, by decide⟩ ⟨Nat.zero_le _, Nat.zero_le _⟩ rfl rfl (Nat.le_of_ble_eq_true rfl) dX1_closeRound_57 (fun r sg h_61 H locs hw => ?_)
          obtain ⟨rfl, rfl⟩ := h_61
          have hw : xW G A s.heap [aucW Y h (mRaise (cl1 ρ) 0) γa52] H locs := hw
          have q_62 : askedOf (mRaise (cl1 ρ) 0) 2 ≤ 54 := askedOf_le hI53 (by omega)
          refine lv_aload_n hx hb dX1_closeRound_60 rfl (lv_at hl 2 rfl) ?_
          refine x_get M hK hw 0 0 rfl rfl ff_X1_9 rfl dX1_closeRound_61 ?_
          refine lv_iload_n hx hb dX1_closeRound_64 rfl (lv_at hl 0 rfl) ?_
          refine x_iald M hK hw 0 1 rfl rfl (by decide) (by decide) dX1_closeRound_65 ?_
          refine x_topN (n := (mRaise (cl1 ρ) 0) 7) rfl ?_
          have q_63 : 1 ≤ (mRaise (cl1 ρ) 0) 7 := (hI53.sup (q := 7) (k := 2) (by decide) rfl).1
          have q_64 : (mRaise (cl1 ρ) 0) 7 ≤ 9 := (hI53.sup (q := 7) (k := 2) (by decide) rfl).2
          refine x_cle M (tgt := 77) (by omega) (by omega) dX1_closeRound_66 (by decide) (fun c_65 => ?_) (fun c_65 => ?_)
          · refine lv_iinc (v := (nI 3)) (lv' := [(2, .int (nI 3)), (1, .int (nI 1)), (0, .ref h)]) hx hb dX1_closeRound_77 hl (k := 0) rfl (by decide) (by decide) rfl (fun ls hl => ?_)
            refine lv_goto (tgt := 50) hx hb dX1_closeRound_80 (by decide) ?_
            refine lv_iload_n hx hb dX1_closeRound_50 rfl (lv_at hl 0 rfl) ?_
            refine lv_iconst (v := (nI 3)) hx hb dX1_closeRound_51 (by decide) ?_
            refine x_cge M (tgt := 83) (by decide) (by decide) dX1_closeRound_52 (by decide) (fun c_66 => ?_) (fun c_66 => absurd c_66 (by decide))
            refine lv_aload_n hx hb dX1_closeRound_83 rfl (lv_at hl 2 rfl) ?_
            refine lv_dup hx hb dX1_closeRound_84 rfl ?_
            refine x_get M hK hw 0 0 rfl rfl ff_X1_49 rfl dX1_closeRound_85 ?_
            refine lv_iconst (v := (nI 1)) hx hb dX1_closeRound_88 (by decide) ?_
            refine x_iadd M (n := 1 + (mRaise (cl1 ρ) 0) 0) dX1_closeRound_89 (by omega) ?_
            refine x_put M hK hw 0 0 rfl rfl fp_X1_49 rfl rfl (Nat.le_of_ble_eq_true rfl) dX1_closeRound_90 (fun H locs hw => ?_)
            have hw : xW G A s.heap [aucR Y h (supF (mRaise (cl1 ρ) 0)) (ptsF (mRaise (cl1 ρ) 0)) (priF (mRaise (cl1 ρ) 0)) (rgtF (mRaise (cl1 ρ) 0) γa52) (capF (mRaise (cl1 ρ) 0) γa52) (pckF (mRaise (cl1 ρ) 0) γa52) (valF (mRaise (cl1 ρ) 0) γa52) (demF (mRaise (cl1 ρ) 0) γa52) (lotF (mRaise (cl1 ρ) 0) γa52) (worF (mRaise (cl1 ρ) 0) γa52) ((mRaise (cl1 ρ) 0) 4) (1 + (mRaise (cl1 ρ) 0) 0) ((mRaise (cl1 ρ) 0) 1) ((mRaise (cl1 ρ) 0) 2) ((mRaise (cl1 ρ) 0) 3)] H locs := hw
            refine lv_aload_n hx hb dX1_closeRound_93 rfl (lv_at hl 2 rfl) ?_
            refine lv_iload_n hx hb dX1_closeRound_94 rfl (lv_at hl 1 rfl) ?_
            refine x_zne M (tgt := 102) (by decide) dX1_closeRound_95 (by decide) (fun c_67 => ?_) (fun c_67 => absurd c_67 (by decide))
            refine lv_iconst (v := (nI 0)) hx hb dX1_closeRound_102 (by decide) ?_
            refine x_put M hK hw 0 0 rfl rfl fp_X1_52 rfl rfl (Nat.le_of_ble_eq_true rfl) dX1_closeRound_103 (fun H locs hw => ?_)
            have hw : xW G A s.heap [aucR Y h (supF (mRaise (cl1 ρ) 0)) (ptsF (mRaise (cl1 ρ) 0)) (priF (mRaise (cl1 ρ) 0)) (rgtF (mRaise (cl1 ρ) 0) γa52) (capF (mRaise (cl1 ρ) 0) γa52) (pckF (mRaise (cl1 ρ) 0) γa52) (valF (mRaise (cl1 ρ) 0) γa52) (demF (mRaise (cl1 ρ) 0) γa52) (lotF (mRaise (cl1 ρ) 0) γa52) (worF (mRaise (cl1 ρ) 0) γa52) ((mRaise (cl1 ρ) 0) 4) (1 + (mRaise (cl1 ρ) 0) 0) 0 ((mRaise (cl1 ρ) 0) 2) ((mRaise (cl1 ρ) 0) 3)] H locs := hw
            refine lv_iload_n hx hb dX1_closeRound_106 rfl (lv_at hl 1 rfl) ?_
            have hQ : clQ (cl1 ρ) = mRaise (cl1 ρ) 0 := by unfold clQ; rw [show clP (cl1 ρ) 0 = mRaise (cl1 ρ) 0 from if_pos c_7, show clP (mRaise (cl1 ρ) 0) 1 = mRaise (cl1 ρ) 0 from if_neg (Nat.not_lt.mpr c_59), show clP (mRaise (cl1 ρ) 0) 2 = mRaise (cl1 ρ) 0 from if_neg (Nat.not_lt.mpr c_65)]
            have hSc : scarce (cl1 ρ) = 1 := by clear hret hw hl M hK hZ hx hb; simp only [scarce, scar, Nat.reduceAdd]; (repeat' split) <;> omega
            have hM : mClose ρ = setN (setN (mRaise (cl1 ρ) 0) 1 0) 0 (ρ 0 + 1) := by unfold mClose; rw [hQ, hSc]; rfl
            have hN68 : (setN (setN (mRaise (cl1 ρ) 0) 1 0) 0 (ρ 0 + 1)) 4 = (mRaise (cl1 ρ) 0) 4 := by clear hret hw hl M hK hZ hx hb; simp only [setN, setN, if_true, if_false, reduceIte] <;> (repeat' split) <;> first | rfl | (exfalso; omega) | omega
            obtain ⟨γ69, hw⟩ := auc_fold (i := 0) (ρ' := setN (setN (mRaise (cl1 ρ) 0) 1 0) 0 (ρ 0 + 1)) hw rfl hN68.symm (by clear hret hw hl M hK hZ hx hb; simp only [setN, setN, if_true, if_false, reduceIte] <;> (repeat' split) <;> first | rfl | (exfalso; omega) | omega) (by clear hret hw hl M hK hZ hx hb; simp only [setN, setN, if_true, if_false, reduceIte] <;> (repeat' split) <;> first | rfl | (exfalso; omega) | omega) (by clear hret hw hl M hK hZ hx hb; simp only [setN, setN, if_true, if_false, reduceIte] <;> (repeat' split) <;> first | rfl | (exfalso; omega) | omega) (by clear hret hw hl M hK hZ hx hb; simp only [setN, setN, if_true, if_false, reduceIte] <;> (repeat' split) <;> first | rfl | (exfalso; omega) | omega) (by clear hret hw hl M hK hZ hx hb; intro k9 hk9; (try simp only [setN, setN, if_true, if_false, reduceIte, supF]) <;> (repeat' split) <;> first | rfl | (exfalso; omega) | omega) (by clear hret hw hl M hK hZ hx hb; intro k9 hk9; (try simp only [setN, setN, if_true, if_false, reduceIte, ptsF]) <;> (repeat' split) <;> first | rfl | (exfalso; omega) | omega) (by clear hret hw hl M hK hZ hx hb; intro k9 hk9; (try simp only [setN, setN, if_true, if_false, reduceIte, priF]) <;> (repeat' split) <;> first | rfl | (exfalso; omega) | omega) (by clear hret hw hl M hK hZ hx hb; intro b9 hb1; rw [hN68] at hb1; (try simp only [setN, setN, if_true, if_false, reduceIte]) <;> (repeat' split) <;> first | rfl | (exfalso; omega) | exact rgt_at (by omega) rfl rfl | omega) (by clear hret hw hl M hK hZ hx hb; intro b9 hb1; rw [hN68] at hb1; (try simp only [setN, setN, if_true, if_false, reduceIte]) <;> (repeat' split) <;> first | rfl | (exfalso; omega) | exact cap_at (by omega) rfl rfl | omega) (by clear hret hw hl M hK hZ hx hb; intro b9 hb1; rw [hN68] at hb1; (try simp only [setN, setN, if_true, if_false, reduceIte]) <;> (repeat' split) <;> first | rfl | (exfalso; omega) | exact pck_at (by omega) rfl rfl | omega) (by clear hret hw hl M hK hZ hx hb; intro b9 k9 hb1 hk9; rw [hN68] at hb1; (try simp only [setN, setN, if_true, if_false, reduceIte]) <;> (repeat' split) <;> first | rfl | (exfalso; omega) | exact val_at (by omega) (by omega) rfl rfl | omega) (by clear hret hw hl M hK hZ hx hb; intro b9 k9 hb1 hk9; rw [hN68] at hb1; (try simp only [setN, setN, if_true, if_false, reduceIte]) <;> (repeat' split) <;> first | rfl | (exfalso; omega) | exact dem_at (by omega) (by omega) rfl rfl | omega) (by clear hret hw hl M hK hZ hx hb; intro b9 i9 k9 hb1 hi9 h39 hk9; rw [hN68] at hb1; simp only [setN, setN, if_true, if_false, reduceIte] at hi9; (try simp only [setN, setN, if_true, if_false, reduceIte]) <;> (repeat' split at hi9) <;> (repeat' split) <;> first | rfl | (exfalso; omega) | exact lot_at (by omega) (by omega) (by omega) (by omega) rfl rfl | omega) (by clear hret hw hl M hK hZ hx hb; intro b9 i9 hb1 hi9 h39; rw [hN68] at hb1; simp only [setN, setN, if_true, if_false, reduceIte] at hi9; (try simp only [setN, setN, if_true, if_false, reduceIte]) <;> (repeat' split at hi9) <;> (repeat' split) <;> first | rfl | (exfalso; omega) | exact wor_at (by omega) (by omega) (by omega) rfl rfl | omega)
            have hw : xW G A s.heap [aucW Y h (setN (setN (mRaise (cl1 ρ) 0) 1 0) 0 (ρ 0 + 1)) γ69] H locs := hw
            rw [← hM] at hw
            exact hret _ _ _ (nI 1) _ _ dX1_closeRound_107 hw rfl rfl ⟨by rw [hSc], _, rfl⟩
          refine lv_iinc (v := (nI 2)) (lv' := [(1, .int (nI 2)), (2, .int (nI 2)), (0, .ref h)]) hx hb dX1_closeRound_69 hl (k := 1) rfl (by decide) (by decide) rfl (fun ls hl => ?_)
          refine lv_aload_n hx hb dX1_closeRound_72 rfl (lv_at hl 2 rfl) ?_
          refine lv_iload_n hx hb dX1_closeRound_73 rfl (lv_at hl 1 rfl) ?_
          refine x_cVV (As := [.int (nI 2)]) (k_X1_raisePrice l G Y h 2 (mRaise (cl1 ρ) 0) γa52 (hI53) (by omega)) cw_X1_124 [0] 0 0 M hK hZ hw hl.1 rfl (by decide) rfl rfl rfl ⟨by decide, by decide⟩ ⟨Nat.zero_le _, Nat.zero_le _⟩ rfl rfl (Nat.le_of_ble_eq_true rfl) dX1_closeRound_74 (fun sg h_70 H locs hw => ?_)
          obtain ⟨γa71, rfl⟩ := h_70
          have hw : xW G A s.heap [aucW Y h (mRaise (mRaise (cl1 ρ) 0) 2) γa71] H locs := hw
          have hI72 := Inv_raise hI53 (k := 2) (by decide)
          have : (mRaise (mRaise (cl1 ρ) 0) 2) 5 = (mRaise (cl1 ρ) 0) 5 := raise_o (by decide)
          have : askedOf (mRaise (mRaise (cl1 ρ) 0) 2) 0 = askedOf (mRaise (cl1 ρ) 0) 0 := asked_raise (by decide)
          have : (mRaise (mRaise (cl1 ρ) 0) 2) 6 = (mRaise (cl1 ρ) 0) 6 := raise_o (by decide)
          have : askedOf (mRaise (mRaise (cl1 ρ) 0) 2) 1 = askedOf (mRaise (cl1 ρ) 0) 1 := asked_raise (by decide)
          have : askedOf (mRaise (mRaise (cl1 ρ) 0) 2) 2 = askedOf (mRaise (cl1 ρ) 0) 2 := asked_raise (by decide)
          have : (mRaise (mRaise (cl1 ρ) 0) 2) 5 = (mRaise (cl1 ρ) 0) 5 := raise_o (by decide)
          have : (mRaise (mRaise (cl1 ρ) 0) 2) 0 = (mRaise (cl1 ρ) 0) 0 := raise_o (by decide)
          have : (mRaise (mRaise (cl1 ρ) 0) 2) 4 = (mRaise (cl1 ρ) 0) 4 := raise_o (by decide)
          refine lv_iinc (v := (nI 3)) (lv' := [(2, .int (nI 3)), (1, .int (nI 2)), (0, .ref h)]) hx hb dX1_closeRound_77 hl (k := 1) rfl (by decide) (by decide) rfl (fun ls hl => ?_)
          refine lv_goto (tgt := 50) hx hb dX1_closeRound_80 (by decide) ?_
          refine lv_iload_n hx hb dX1_closeRound_50 rfl (lv_at hl 0 rfl) ?_
          refine lv_iconst (v := (nI 3)) hx hb dX1_closeRound_51 (by decide) ?_
          refine x_cge M (tgt := 83) (by decide) (by decide) dX1_closeRound_52 (by decide) (fun c_73 => ?_) (fun c_73 => absurd c_73 (by decide))
          refine lv_aload_n hx hb dX1_closeRound_83 rfl (lv_at hl 2 rfl) ?_
          refine lv_dup hx hb dX1_closeRound_84 rfl ?_
          refine x_get M hK hw 0 0 rfl rfl ff_X1_49 rfl dX1_closeRound_85 ?_
          refine lv_iconst (v := (nI 1)) hx hb dX1_closeRound_88 (by decide) ?_
          refine x_iadd M (n := 1 + (mRaise (mRaise (cl1 ρ) 0) 2) 0) dX1_closeRound_89 (by omega) ?_
          refine x_put M hK hw 0 0 rfl rfl fp_X1_49 rfl rfl (Nat.le_of_ble_eq_true rfl) dX1_closeRound_90 (fun H locs hw => ?_)
          have hw : xW G A s.heap [aucR Y h (supF (mRaise (mRaise (cl1 ρ) 0) 2)) (ptsF (mRaise (mRaise (cl1 ρ) 0) 2)) (priF (mRaise (mRaise (cl1 ρ) 0) 2)) (rgtF (mRaise (mRaise (cl1 ρ) 0) 2) γa71) (capF (mRaise (mRaise (cl1 ρ) 0) 2) γa71) (pckF (mRaise (mRaise (cl1 ρ) 0) 2) γa71) (valF (mRaise (mRaise (cl1 ρ) 0) 2) γa71) (demF (mRaise (mRaise (cl1 ρ) 0) 2) γa71) (lotF (mRaise (mRaise (cl1 ρ) 0) 2) γa71) (worF (mRaise (mRaise (cl1 ρ) 0) 2) γa71) ((mRaise (mRaise (cl1 ρ) 0) 2) 4) (1 + (mRaise (mRaise (cl1 ρ) 0) 2) 0) ((mRaise (mRaise (cl1 ρ) 0) 2) 1) ((mRaise (mRaise (cl1 ρ) 0) 2) 2) ((mRaise (mRaise (cl1 ρ) 0) 2) 3)] H locs := hw
          refine lv_aload_n hx hb dX1_closeRound_93 rfl (lv_at hl 2 rfl) ?_
          refine lv_iload_n hx hb dX1_closeRound_94 rfl (lv_at hl 1 rfl) ?_
          refine x_zne M (tgt := 102) (by decide) dX1_closeRound_95 (by decide) (fun c_74 => ?_) (fun c_74 => absurd c_74 (by decide))
          refine lv_iconst (v := (nI 0)) hx hb dX1_closeRound_102 (by decide) ?_
          refine x_put M hK hw 0 0 rfl rfl fp_X1_52 rfl rfl (Nat.le_of_ble_eq_true rfl) dX1_closeRound_103 (fun H locs hw => ?_)
          have hw : xW G A s.heap [aucR Y h (supF (mRaise (mRaise (cl1 ρ) 0) 2)) (ptsF (mRaise (mRaise (cl1 ρ) 0) 2)) (priF (mRaise (mRaise (cl1 ρ) 0) 2)) (rgtF (mRaise (mRaise (cl1 ρ) 0) 2) γa71) (capF (mRaise (mRaise (cl1 ρ) 0) 2) γa71) (pckF (mRaise (mRaise (cl1 ρ) 0) 2) γa71) (valF (mRaise (mRaise (cl1 ρ) 0) 2) γa71) (demF (mRaise (mRaise (cl1 ρ) 0) 2) γa71) (lotF (mRaise (mRaise (cl1 ρ) 0) 2) γa71) (worF (mRaise (mRaise (cl1 ρ) 0) 2) γa71) ((mRaise (mRaise (cl1 ρ) 0) 2) 4) (1 + (mRaise (mRaise (cl1 ρ) 0) 2) 0) 0 ((mRaise (mRaise (cl1 ρ) 0) 2) 2) ((mRaise (mRaise (cl1 ρ) 0) 2) 3)] H locs := hw
          refine lv_iload_n hx hb dX1_closeRound_106 rfl (lv_at hl 1 rfl) ?_
          have hQ : clQ (cl1 ρ) = mRaise (mRaise (cl1 ρ) 0) 2 := by unfold clQ; rw [show clP (cl1 ρ) 0 = mRaise (cl1 ρ) 0 from if_pos c_7, show clP (mRaise (cl1 ρ) 0) 1 = mRaise (cl1 ρ) 0 from if_neg (Nat.not_lt.mpr c_59), show clP (mRaise (cl1 ρ) 0) 2 = mRaise (mRaise (cl1 ρ) 0) 2 from if_pos c_65]
          have hSc : scarce (cl1 ρ) = 2 := by clear hret hw hl M hK hZ hx hb; simp only [scarce, scar, Nat.reduceAdd]; (repeat' split) <;> omega
          have hM : mClose ρ = setN (setN (mRaise (mRaise (cl1 ρ) 0) 2) 1 0) 0 (ρ 0 + 1) := by unfold mClose; rw [hQ, hSc]; rfl
          have hN75 : (setN (setN (mRaise (mRaise (cl1 ρ) 0) 2) 1 0) 0 (ρ 0 + 1)) 4 = (mRaise (mRaise (cl1 ρ) 0) 2) 4 := by clear hret hw hl M hK hZ hx hb; simp only [setN, setN, if_true, if_false, reduceIte] <;> (repeat' split) <;> first | rfl | (exfalso; omega) | omega
          obtain ⟨γ76, hw⟩ := auc_fold (i := 0) (ρ' := setN (setN (mRaise (mRaise (cl1 ρ) 0) 2) 1 0) 0 (ρ 0 + 1)) hw rfl hN75.symm (by clear hret hw hl M hK hZ hx hb; simp only [setN, setN, if_true, if_false, reduceIte] <;> (repeat' split) <;> first | rfl | (exfalso; omega) | omega) (by clear hret hw hl M hK hZ hx hb; simp only [setN, setN, if_true, if_false, reduceIte] <;> (repeat' split) <;> first | rfl | (exfalso; omega) | omega) (by clear hret hw hl M hK hZ hx hb; simp only [setN, setN, if_true, if_false, reduceIte] <;> (repeat' split) <;> first | rfl | (exfalso; omega) | omega) (by clear hret hw hl M hK hZ hx hb; simp only [setN, setN, if_true, if_false, reduceIte] <;> (repeat' split) <;> first | rfl | (exfalso; omega) | omega) (by clear hret hw hl M hK hZ hx hb; intro k9 hk9; (try simp only [setN, setN, if_true, if_false, reduceIte, supF]) <;> (repeat' split) <;> first | rfl | (exfalso; omega) | omega) (by clear hret hw hl M hK hZ hx hb; intro k9 hk9; (try simp only [setN, setN, if_true, if_false, reduceIte, ptsF]) <;> (repeat' split) <;> first | rfl | (exfalso; omega) | omega) (by clear hret hw hl M hK hZ hx hb; intro k9 hk9; (try simp only [setN, setN, if_true, if_false, reduceIte, priF]) <;> (repeat' split) <;> first | rfl | (exfalso; omega) | omega) (by clear hret hw hl M hK hZ hx hb; intro b9 hb1; rw [hN75] at hb1; (try simp only [setN, setN, if_true, if_false, reduceIte]) <;> (repeat' split) <;> first | rfl | (exfalso; omega) | exact rgt_at (by omega) rfl rfl | omega) (by clear hret hw hl M hK hZ hx hb; intro b9 hb1; rw [hN75] at hb1; (try simp only [setN, setN, if_true, if_false, reduceIte]) <;> (repeat' split) <;> first | rfl | (exfalso; omega) | exact cap_at (by omega) rfl rfl | omega) (by clear hret hw hl M hK hZ hx hb; intro b9 hb1; rw [hN75] at hb1; (try simp only [setN, setN, if_true, if_false, reduceIte]) <;> (repeat' split) <;> first | rfl | (exfalso; omega) | exact pck_at (by omega) rfl rfl | omega) (by clear hret hw hl M hK hZ hx hb; intro b9 k9 hb1 hk9; rw [hN75] at hb1; (try simp only [setN, setN, if_true, if_false, reduceIte]) <;> (repeat' split) <;> first | rfl | (exfalso; omega) | exact val_at (by omega) (by omega) rfl rfl | omega) (by clear hret hw hl M hK hZ hx hb; intro b9 k9 hb1 hk9; rw [hN75] at hb1; (try simp only [setN, setN, if_true, if_false, reduceIte]) <;> (repeat' split) <;> first | rfl | (exfalso; omega) | exact dem_at (by omega) (by omega) rfl rfl | omega) (by clear hret hw hl M hK hZ hx hb; intro b9 i9 k9 hb1 hi9 h39 hk9; rw [hN75] at hb1; simp only [setN, setN, if_true, if_false, reduceIte] at hi9; (try simp only [setN, setN, if_true, if_false, reduceIte]) <;> (repeat' split at hi9) <;> (repeat' split) <;> first | rfl | (exfalso; omega) | exact lot_at (by omega) (by omega) (by omega) (by omega) rfl rfl | omega) (by clear hret hw hl M hK hZ hx hb; intro b9 i9 hb1 hi9 h39; rw [hN75] at hb1; simp only [setN, setN, if_true, if_false, reduceIte] at hi9; (try simp only [setN, setN, if_true, if_false, reduceIte]) <;> (repeat' split at hi9) <;> (repeat' split) <;> first | rfl | (exfalso; omega) | exact wor_at (by omega) (by omega) (by omega) rfl rfl | omega)
          have hw : xW G A s.heap [aucW Y h (setN (setN (mRaise (mRaise (cl1 ρ) 0) 2) 1 0) 0 (ρ 0 + 1)) γ76] H locs := hw
          rw [← hM] at hw
          exact hret _ _ _ (nI 2) _ _ dX1_closeRound_107 hw rfl rfl ⟨by rw [hSc], _, rfl⟩
        refine lv_iinc (v := (nI 2)) (lv' := [(1, .int (nI 2)), (2, .int (nI 1)), (0, .ref h)]) hx hb dX1_closeRound_69 hl (k := 1) rfl (by decide) (by decide) rfl (fun ls hl => ?_)
        refine lv_aload_n hx hb dX1_closeRound_72 rfl (lv_at hl 2 rfl) ?_
        refine lv_iload_n hx hb dX1_closeRound_73 rfl (lv_at hl 1 rfl) ?_
        refine x_cVV (As := [.int (nI 1)]) (k_X1_raisePrice l G Y h 1 (mRaise (cl1 ρ) 0) γa52 (hI53) (by omega)) cw_X1_124 [0] 0 0 M hK hZ hw hl.1 rfl (by decide) rfl rfl rfl ⟨by decide, by decide⟩ ⟨Nat.zero_le _, Nat.zero_le _⟩ rfl rfl (Nat.le_of_ble_eq_true rfl) dX1_closeRound_74 (fun sg h_77 H locs hw => ?_)
        obtain ⟨γa78, rfl⟩ := h_77
        have hw : xW G A s.heap [aucW Y h (mRaise (mRaise (cl1 ρ) 0) 1) γa78] H locs := hw
        have hI79 := Inv_raise hI53 (k := 1) (by decide)
        have : (mRaise (mRaise (cl1 ρ) 0) 1) 5 = (mRaise (cl1 ρ) 0) 5 := raise_o (by decide)
        have : askedOf (mRaise (mRaise (cl1 ρ) 0) 1) 0 = askedOf (mRaise (cl1 ρ) 0) 0 := asked_raise (by decide)
        have : askedOf (mRaise (mRaise (cl1 ρ) 0) 1) 1 = askedOf (mRaise (cl1 ρ) 0) 1 := asked_raise (by decide)
        have : (mRaise (mRaise (cl1 ρ) 0) 1) 7 = (mRaise (cl1 ρ) 0) 7 := raise_o (by decide)
        have : askedOf (mRaise (mRaise (cl1 ρ) 0) 1) 2 = askedOf (mRaise (cl1 ρ) 0) 2 := asked_raise (by decide)
        have : (mRaise (mRaise (cl1 ρ) 0) 1) 5 = (mRaise (cl1 ρ) 0) 5 := raise_o (by decide)
        have : (mRaise (mRaise (cl1 ρ) 0) 1) 0 = (mRaise (cl1 ρ) 0) 0 := raise_o (by decide)
        have : (mRaise (mRaise (cl1 ρ) 0) 1) 4 = (mRaise (cl1 ρ) 0) 4 := raise_o (by decide)
        refine lv_iinc (v := (nI 2)) (lv' := [(2, .int (nI 2)), (1, .int (nI 2)), (0, .ref h)]) hx hb dX1_closeRound_77 hl (k := 1) rfl (by decide) (by decide) rfl (fun ls hl => ?_)
        refine lv_goto (tgt := 50) hx hb dX1_closeRound_80 (by decide) ?_
        refine lv_iload_n hx hb dX1_closeRound_50 rfl (lv_at hl 0 rfl) ?_
        refine lv_iconst (v := (nI 3)) hx hb dX1_closeRound_51 (by decide) ?_
        refine x_cge M (tgt := 83) (by decide) (by decide) dX1_closeRound_52 (by decide) (fun c_80 => absurd c_80 (by decide)) (fun c_80 => ?_)
        refine lv_aload_n hx hb dX1_closeRound_55 rfl (lv_at hl 2 rfl) ?_
        refine lv_iload_n hx hb dX1_closeRound_56 rfl (lv_at hl 0 rfl) ?_
        refine x_cVI (As := [.int (nI 2)]) (k_X1_askedOf l G Y h 2 (mRaise (mRaise (cl1 ρ) 0) 1) γa78 (hI79) (by omega)) cw_X1_76 [0] 0 0 M hK hZ hw hl.1 rfl (by decide) rfl rfl rfl ⟨by decide, by decide⟩ ⟨Nat.zero_le _, Nat.zero_le _⟩ rfl rfl (Nat.le_of_ble_eq_true rfl) dX1_closeRound_57 (fun r sg h_81 H locs hw => ?_)
        obtain ⟨rfl, rfl⟩ := h_81
        have hw : xW G A s.heap [aucW Y h (mRaise (mRaise (cl1 ρ) 0) 1) γa78] H locs := hw
        have q_82 : askedOf (mRaise (mRaise (cl1 ρ) 0) 1) 2 ≤ 54 := askedOf_le hI79 (by omega)
        refine lv_aload_n hx hb dX1_closeRound_60 rfl (lv_at hl 2 rfl) ?_
        refine x_get M hK hw 0 0 rfl rfl ff_X1_9 rfl dX1_closeRound_61 ?_
        refine lv_iload_n hx hb dX1_closeRound_64 rfl (lv_at hl 0 rfl) ?_
        refine x_iald M hK hw 0 1 rfl rfl (by decide) (by decide) dX1_closeRound_65 ?_
        refine x_topN (n := (mRaise (mRaise (cl1 ρ) 0) 1) 7) rfl ?_
        have q_83 : 1 ≤ (mRaise (mRaise (cl1 ρ) 0) 1) 7 := (hI79.sup (q := 7) (k := 2) (by decide) rfl).1
        have q_84 : (mRaise (mRaise (cl1 ρ) 0) 1) 7 ≤ 9 := (hI79.sup (q := 7) (k := 2) (by decide) rfl).2
        refine x_cle M (tgt := 77) (by omega) (by omega) dX1_closeRound_66 (by decide) (fun c_85 => ?_) (fun c_85 => ?_)
        · refine lv_iinc (v := (nI 3)) (lv' := [(2, .int (nI 3)), (1, .int (nI 2)), (0, .ref h)]) hx hb dX1_closeRound_77 hl (k := 0) rfl (by decide) (by decide) rfl (fun ls hl => ?_)
          refine lv_goto (tgt := 50) hx hb dX1_closeRound_80 (by decide) ?_
          refine lv_iload_n hx hb dX1_closeRound_50 rfl (lv_at hl 0 rfl) ?_
          refine lv_iconst (v := (nI 3)) hx hb dX1_closeRound_51 (by decide) ?_
          refine x_cge M (tgt := 83) (by decide) (by decide) dX1_closeRound_52 (by decide) (fun c_86 => ?_) (fun c_86 => absurd c_86 (by decide))
          refine lv_aload_n hx hb dX1_closeRound_83 rfl (lv_at hl 2 rfl) ?_
          refine lv_dup hx hb dX1_closeRound_84 rfl ?_
          refine x_get M hK hw 0 0 rfl rfl ff_X1_49 rfl dX1_closeRound_85 ?_
          refine lv_iconst (v := (nI 1)) hx hb dX1_closeRound_88 (by decide) ?_
          refine x_iadd M (n := 1 + (mRaise (mRaise (cl1 ρ) 0) 1) 0) dX1_closeRound_89 (by omega) ?_
          refine x_put M hK hw 0 0 rfl rfl fp_X1_49 rfl rfl (Nat.le_of_ble_eq_true rfl) dX1_closeRound_90 (fun H locs hw => ?_)
          have hw : xW G A s.heap [aucR Y h (supF (mRaise (mRaise (cl1 ρ) 0) 1)) (ptsF (mRaise (mRaise (cl1 ρ) 0) 1)) (priF (mRaise (mRaise (cl1 ρ) 0) 1)) (rgtF (mRaise (mRaise (cl1 ρ) 0) 1) γa78) (capF (mRaise (mRaise (cl1 ρ) 0) 1) γa78) (pckF (mRaise (mRaise (cl1 ρ) 0) 1) γa78) (valF (mRaise (mRaise (cl1 ρ) 0) 1) γa78) (demF (mRaise (mRaise (cl1 ρ) 0) 1) γa78) (lotF (mRaise (mRaise (cl1 ρ) 0) 1) γa78) (worF (mRaise (mRaise (cl1 ρ) 0) 1) γa78) ((mRaise (mRaise (cl1 ρ) 0) 1) 4) (1 + (mRaise (mRaise (cl1 ρ) 0) 1) 0) ((mRaise (mRaise (cl1 ρ) 0) 1) 1) ((mRaise (mRaise (cl1 ρ) 0) 1) 2) ((mRaise (mRaise (cl1 ρ) 0) 1) 3)] H locs := hw
          refine lv_aload_n hx hb dX1_closeRound_93 rfl (lv_at hl 2 rfl) ?_
          refine lv_iload_n hx hb dX1_closeRound_94 rfl (lv_at hl 1 rfl) ?_
          refine x_zne M (tgt := 102) (by decide) dX1_closeRound_95 (by decide) (fun c_87 => ?_) (fun c_87 => absurd c_87 (by decide))
          refine lv_iconst (v := (nI 0)) hx hb dX1_closeRound_102 (by decide) ?_
          refine x_put M hK hw 0 0 rfl rfl fp_X1_52 rfl rfl (Nat.le_of_ble_eq_true rfl) dX1_closeRound_103 (fun H locs hw => ?_)
          have hw : xW G A s.heap [aucR Y h (supF (mRaise (mRaise (cl1 ρ) 0) 1)) (ptsF (mRaise (mRaise (cl1 ρ) 0) 1)) (priF (mRaise (mRaise (cl1 ρ) 0) 1)) (rgtF (mRaise (mRaise (cl1 ρ) 0) 1) γa78) (capF (mRaise (mRaise (cl1 ρ) 0) 1) γa78) (pckF (mRaise (mRaise (cl1 ρ) 0) 1) γa78) (valF (mRaise (mRaise (cl1 ρ) 0) 1) γa78) (demF (mRaise (mRaise (cl1 ρ) 0) 1) γa78) (lotF (mRaise (mRaise (cl1 ρ) 0) 1) γa78) (worF (mRaise (mRaise (cl1 ρ) 0) 1) γa78) ((mRaise (mRaise (cl1 ρ) 0) 1) 4) (1 + (mRaise (mRaise (cl1 ρ) 0) 1) 0) 0 ((mRaise (mRaise (cl1 ρ) 0) 1) 2) ((mRaise (mRaise (cl1 ρ) 0) 1) 3)] H locs := hw
          refine lv_iload_n hx hb dX1_closeRound_106 rfl (lv_at hl 1 rfl) ?_
          have hQ : clQ (cl1 ρ) = mRaise (mRaise (cl1 ρ) 0) 1 := by unfold clQ; rw [show clP (cl1 ρ) 0 = mRaise (cl1 ρ) 0 from if_pos c_7, show clP (mRaise (cl1 ρ) 0) 1 = mRaise (mRaise (cl1 ρ) 0) 1 from if_pos c_59, show clP (mRaise (mRaise (cl1 ρ) 0) 1) 2 = mRaise (mRaise (cl1 ρ) 0) 1 from if_neg (Nat.not_lt.mpr c_85)]
          have hSc : scarce (cl1 ρ) = 2 := by clear hret hw hl M hK hZ hx hb; simp only [scarce, scar, Nat.reduceAdd]; (repeat' split) <;> omega
          have hM : mClose ρ = setN (setN (mRaise (mRaise (cl1 ρ) 0) 1) 1 0) 0 (ρ 0 + 1) := by unfold mClose; rw [hQ, hSc]; rfl
          have hN88 : (setN (setN (mRaise (mRaise (cl1 ρ) 0) 1) 1 0) 0 (ρ 0 + 1)) 4 = (mRaise (mRaise (cl1 ρ) 0) 1) 4 := by clear hret hw hl M hK hZ hx hb; simp only [setN, setN, if_true, if_false, reduceIte] <;> (repeat' split) <;> first | rfl | (exfalso; omega) | omega
          obtain ⟨γ89, hw⟩ := auc_fold (i := 0) (ρ' := setN (setN (mRaise (mRaise (cl1 ρ) 0) 1) 1 0) 0 (ρ 0 + 1)) hw rfl hN88.symm (by clear hret hw hl M hK hZ hx hb; simp only [setN, setN, if_true, if_false, reduceIte] <;> (repeat' split) <;> first | rfl | (exfalso; omega) | omega) (by clear hret hw hl M hK hZ hx hb; simp only [setN, setN, if_true, if_false, reduceIte] <;> (repeat' split) <;> first | rfl | (exfalso; omega) | omega) (by clear hret hw hl M hK hZ hx hb; simp only [setN, setN, if_true, if_false, reduceIte] <;> (repeat' split) <;> first | rfl | (exfalso; omega) | omega) (by clear hret hw hl M hK hZ hx hb; simp only [setN, setN, if_true, if_false, reduceIte] <;> (repeat' split) <;> first | rfl | (exfalso; omega) | omega) (by clear hret hw hl M hK hZ hx hb; intro k9 hk9; (try simp only [setN, setN, if_true, if_false, reduceIte, supF]) <;> (repeat' split) <;> first | rfl | (exfalso; omega) | omega) (by clear hret hw hl M hK hZ hx hb; intro k9 hk9; (try simp only [setN, setN, if_true, if_false, reduceIte, ptsF]) <;> (repeat' split) <;> first | rfl | (exfalso; omega) | omega) (by clear hret hw hl M hK hZ hx hb; intro k9 hk9; (try simp only [setN, setN, if_true, if_false, reduceIte, priF]) <;> (repeat' split) <;> first | rfl | (exfalso; omega) | omega) (by clear hret hw hl M hK hZ hx hb; intro b9 hb1; rw [hN88] at hb1; (try simp only [setN, setN, if_true, if_false, reduceIte]) <;> (repeat' split) <;> first | rfl | (exfalso; omega) | exact rgt_at (by omega) rfl rfl | omega) (by clear hret hw hl M hK hZ hx hb; intro b9 hb1; rw [hN88] at hb1; (try simp only [setN, setN, if_true, if_false, reduceIte]) <;> (repeat' split) <;> first | rfl | (exfalso; omega) | exact cap_at (by omega) rfl rfl | omega) (by clear hret hw hl M hK hZ hx hb; intro b9 hb1; rw [hN88] at hb1; (try simp only [setN, setN, if_true, if_false, reduceIte]) <;> (repeat' split) <;> first | rfl | (exfalso; omega) | exact pck_at (by omega) rfl rfl | omega) (by clear hret hw hl M hK hZ hx hb; intro b9 k9 hb1 hk9; rw [hN88] at hb1; (try simp only [setN, setN, if_true, if_false, reduceIte]) <;> (repeat' split) <;> first | rfl | (exfalso; omega) | exact val_at (by omega) (by omega) rfl rfl | omega) (by clear hret hw hl M hK hZ hx hb; intro b9 k9 hb1 hk9; rw [hN88] at hb1; (try simp only [setN, setN, if_true, if_false, reduceIte]) <;> (repeat' split) <;> first | rfl | (exfalso; omega) | exact dem_at (by omega) (by omega) rfl rfl | omega) (by clear hret hw hl M hK hZ hx hb; intro b9 i9 k9 hb1 hi9 h39 hk9; rw [hN88] at hb1; simp only [setN, setN, if_true, if_false, reduceIte] at hi9; (try simp only [setN, setN, if_true, if_false, reduceIte]) <;> (repeat' split at hi9) <;> (repeat' split) <;> first | rfl | (exfalso; omega) | exact lot_at (by omega) (by omega) (by omega) (by omega) rfl rfl | omega) (by clear hret hw hl M hK hZ hx hb; intro b9 i9 hb1 hi9 h39; rw [hN88] at hb1; simp only [setN, setN, if_true, if_false, reduceIte] at hi9; (try simp only [setN, setN, if_true, if_false, reduceIte]) <;> (repeat' split at hi9) <;> (repeat' split) <;> first | rfl | (exfalso; omega) | exact wor_at (by omega) (by omega) (by omega) rfl rfl | omega)
          have hw : xW G A s.heap [aucW Y h (setN (setN (mRaise (mRaise (cl1 ρ) 0) 1) 1 0) 0 (ρ 0 + 1)) γ89] H locs := hw
          rw [← hM] at hw
          exact hret _ _ _ (nI 2) _ _ dX1_closeRound_107 hw rfl rfl ⟨by rw [hSc], _, rfl⟩
        refine lv_iinc (v := (nI 3)) (lv' := [(1, .int (nI 3)), (2, .int (nI 2)), (0, .ref h)]) hx hb dX1_closeRound_69 hl (k := 1) rfl (by decide) (by decide) rfl (fun ls hl => ?_)
        refine lv_aload_n hx hb dX1_closeRound_72 rfl (lv_at hl 2 rfl) ?_
        refine lv_iload_n hx hb dX1_closeRound_73 rfl (lv_at hl 1 rfl) ?_
        refine x_cVV (As := [.int (nI 2)]) (k_X1_raisePrice l G Y h 2 (mRaise (mRaise (cl1 ρ) 0) 1) γa78 (hI79) (by omega)) cw_X1_124 [0] 0 0 M hK hZ hw hl.1 rfl (by decide) rfl rfl rfl ⟨by decide, by decide⟩ ⟨Nat.zero_le _, Nat.zero_le _⟩ rfl rfl (Nat.le_of_ble_eq_true rfl) dX1_closeRound_74 (fun sg h_90 H locs hw => ?_)
        obtain ⟨γa91, rfl⟩ := h_90
        have hw : xW G A s.heap [aucW Y h (mRaise (mRaise (mRaise (cl1 ρ) 0) 1) 2) γa91] H locs := hw
        have hI92 := Inv_raise hI79 (k := 2) (by decide)
        have : (mRaise (mRaise (mRaise (cl1 ρ) 0) 1) 2) 5 = (mRaise (mRaise (cl1 ρ) 0) 1) 5 := raise_o (by decide)
        have : askedOf (mRaise (mRaise (mRaise (cl1 ρ) 0) 1) 2) 0 = askedOf (mRaise (mRaise (cl1 ρ) 0) 1) 0 := asked_raise (by decide)
        have : (mRaise (mRaise (mRaise (cl1 ρ) 0) 1) 2) 6 = (mRaise (mRaise (cl1 ρ) 0) 1) 6 := raise_o (by decide)
        have : askedOf (mRaise (mRaise (mRaise (cl1 ρ) 0) 1) 2) 1 = askedOf (mRaise (mRaise (cl1 ρ) 0) 1) 1 := asked_raise (by decide)
        have : askedOf (mRaise (mRaise (mRaise (cl1 ρ) 0) 1) 2) 2 = askedOf (mRaise (mRaise (cl1 ρ) 0) 1) 2 := asked_raise (by decide)
        have : (mRaise (mRaise (mRaise (cl1 ρ) 0) 1) 2) 5 = (mRaise (mRaise (cl1 ρ) 0) 1) 5 := raise_o (by decide)
        have : (mRaise (mRaise (mRaise (cl1 ρ) 0) 1) 2) 0 = (mRaise (mRaise (cl1 ρ) 0) 1) 0 := raise_o (by decide)
        have : (mRaise (mRaise (mRaise (cl1 ρ) 0) 1) 2) 4 = (mRaise (mRaise (cl1 ρ) 0) 1) 4 := raise_o (by decide)
        refine lv_iinc (v := (nI 3)) (lv' := [(2, .int (nI 3)), (1, .int (nI 3)), (0, .ref h)]) hx hb dX1_closeRound_77 hl (k := 1) rfl (by decide) (by decide) rfl (fun ls hl => ?_)
        refine lv_goto (tgt := 50) hx hb dX1_closeRound_80 (by decide) ?_
        refine lv_iload_n hx hb dX1_closeRound_50 rfl (lv_at hl 0 rfl) ?_
        refine lv_iconst (v := (nI 3)) hx hb dX1_closeRound_51 (by decide) ?_
        refine x_cge M (tgt := 83) (by decide) (by decide) dX1_closeRound_52 (by decide) (fun c_93 => ?_) (fun c_93 => absurd c_93 (by decide))
        refine lv_aload_n hx hb dX1_closeRound_83 rfl (lv_at hl 2 rfl) ?_
        refine lv_dup hx hb dX1_closeRound_84 rfl ?_
        refine x_get M hK hw 0 0 rfl rfl ff_X1_49 rfl dX1_closeRound_85 ?_
        refine lv_iconst (v := (nI 1)) hx hb dX1_closeRound_88 (by decide) ?_
        refine x_iadd M (n := 1 + (mRaise (mRaise (mRaise (cl1 ρ) 0) 1) 2) 0) dX1_closeRound_89 (by omega) ?_
        refine x_put M hK hw 0 0 rfl rfl fp_X1_49 rfl rfl (Nat.le_of_ble_eq_true rfl) dX1_closeRound_90 (fun H locs hw => ?_)
        have hw : xW G A s.heap [aucR Y h (supF (mRaise (mRaise (mRaise (cl1 ρ) 0) 1) 2)) (ptsF (mRaise (mRaise (mRaise (cl1 ρ) 0) 1) 2)) (priF (mRaise (mRaise (mRaise (cl1 ρ) 0) 1) 2)) (rgtF (mRaise (mRaise (mRaise (cl1 ρ) 0) 1) 2) γa91) (capF (mRaise (mRaise (mRaise (cl1 ρ) 0) 1) 2) γa91) (pckF (mRaise (mRaise (mRaise (cl1 ρ) 0) 1) 2) γa91) (valF (mRaise (mRaise (mRaise (cl1 ρ) 0) 1) 2) γa91) (demF (mRaise (mRaise (mRaise (cl1 ρ) 0) 1) 2) γa91) (lotF (mRaise (mRaise (mRaise (cl1 ρ) 0) 1) 2) γa91) (worF (mRaise (mRaise (mRaise (cl1 ρ) 0) 1) 2) γa91) ((mRaise (mRaise (mRaise (cl1 ρ) 0) 1) 2) 4) (1 + (mRaise (mRaise (mRaise (cl1 ρ) 0) 1) 2) 0) ((mRaise (mRaise (mRaise (cl1 ρ) 0) 1) 2) 1) ((mRaise (mRaise (mRaise (cl1 ρ) 0) 1) 2) 2) ((mRaise (mRaise (mRaise (cl1 ρ) 0) 1) 2) 3)] H locs := hw
        refine lv_aload_n hx hb dX1_closeRound_93 rfl (lv_at hl 2 rfl) ?_
        refine lv_iload_n hx hb dX1_closeRound_94 rfl (lv_at hl 1 rfl) ?_
        refine x_zne M (tgt := 102) (by decide) dX1_closeRound_95 (by decide) (fun c_94 => ?_) (fun c_94 => absurd c_94 (by decide))
        refine lv_iconst (v := (nI 0)) hx hb dX1_closeRound_102 (by decide) ?_
        refine x_put M hK hw 0 0 rfl rfl fp_X1_52 rfl rfl (Nat.le_of_ble_eq_true rfl) dX1_closeRound_103 (fun H locs hw => ?_)
        have hw : xW G A s.heap [aucR Y h (supF (mRaise (mRaise (mRaise (cl1 ρ) 0) 1) 2)) (ptsF (mRaise (mRaise (mRaise (cl1 ρ) 0) 1) 2)) (priF (mRaise (mRaise (mRaise (cl1 ρ) 0) 1) 2)) (rgtF (mRaise (mRaise (mRaise (cl1 ρ) 0) 1) 2) γa91) (capF (mRaise (mRaise (mRaise (cl1 ρ) 0) 1) 2) γa91) (pckF (mRaise (mRaise (mRaise (cl1 ρ) 0) 1) 2) γa91) (valF (mRaise (mRaise (mRaise (cl1 ρ) 0) 1) 2) γa91) (demF (mRaise (mRaise (mRaise (cl1 ρ) 0) 1) 2) γa91) (lotF (mRaise (mRaise (mRaise (cl1 ρ) 0) 1) 2) γa91) (worF (mRaise (mRaise (mRaise (cl1 ρ) 0) 1) 2) γa91) ((mRaise (mRaise (mRaise (cl1 ρ) 0) 1) 2) 4) (1 + (mRaise (mRaise (mRaise (cl1 ρ) 0) 1) 2) 0) 0 ((mRaise (mRaise (mRaise (cl1 ρ) 0) 1) 2) 2) ((mRaise (mRaise (mRaise (cl1 ρ) 0) 1) 2) 3)] H locs := hw
        refine lv_iload_n hx hb dX1_closeRound_106 rfl (lv_at hl 1 rfl) ?_
        have hQ : clQ (cl1 ρ) = mRaise (mRaise (mRaise (cl1 ρ) 0) 1) 2 := by unfold clQ; rw [show clP (cl1 ρ) 0 = mRaise (cl1 ρ) 0 from if_pos c_7, show clP (mRaise (cl1 ρ) 0) 1 = mRaise (mRaise (cl1 ρ) 0) 1 from if_pos c_59, show clP (mRaise (mRaise (cl1 ρ) 0) 1) 2 = mRaise (mRaise (mRaise (cl1 ρ) 0) 1) 2 from if_pos c_85]
        have hSc : scarce (cl1 ρ) = 3 := by clear hret hw hl M hK hZ hx hb; simp only [scarce, scar, Nat.reduceAdd]; (repeat' split) <;> omega
        have hM : mClose ρ = setN (setN (mRaise (mRaise (mRaise (cl1 ρ) 0) 1) 2) 1 0) 0 (ρ 0 + 1) := by unfold mClose; rw [hQ, hSc]; rfl
        have hN95 : (setN (setN (mRaise (mRaise (mRaise (cl1 ρ) 0) 1) 2) 1 0) 0 (ρ 0 + 1)) 4 = (mRaise (mRaise (mRaise (cl1 ρ) 0) 1) 2) 4 := by clear hret hw hl M hK hZ hx hb; simp only [setN, setN, if_true, if_false, reduceIte] <;> (repeat' split) <;> first | rfl | (exfalso; omega) | omega
        obtain ⟨γ96, hw⟩ := auc_fold (i := 0) (ρ' := setN (setN (mRaise (mRaise (mRaise (cl1 ρ) 0) 1) 2) 1 0) 0 (ρ 0 + 1)) hw rfl hN95.symm (by clear hret hw hl M hK hZ hx hb; simp only [setN, setN, if_true, if_false, reduceIte] <;> (repeat' split) <;> first | rfl | (exfalso; omega) | omega) (by clear hret hw hl M hK hZ hx hb; simp only [setN, setN, if_true, if_false, reduceIte] <;> (repeat' split) <;> first | rfl | (exfalso; omega) | omega) (by clear hret hw hl M hK hZ hx hb; simp only [setN, setN, if_true, if_false, reduceIte] <;> (repeat' split) <;> first | rfl | (exfalso; omega) | omega) (by clear hret hw hl M hK hZ hx hb; simp only [setN, setN, if_true, if_false, reduceIte] <;> (repeat' split) <;> first | rfl | (exfalso; omega) | omega) (by clear hret hw hl M hK hZ hx hb; intro k9 hk9; (try simp only [setN, setN, if_true, if_false, reduceIte, supF]) <;> (repeat' split) <;> first | rfl | (exfalso; omega) | omega) (by clear hret hw hl M hK hZ hx hb; intro k9 hk9; (try simp only [setN, setN, if_true, if_false, reduceIte, ptsF]) <;> (repeat' split) <;> first | rfl | (exfalso; omega) | omega) (by clear hret hw hl M hK hZ hx hb; intro k9 hk9; (try simp only [setN, setN, if_true, if_false, reduceIte, priF]) <;> (repeat' split) <;> first | rfl | (exfalso; omega) | omega) (by clear hret hw hl M hK hZ hx hb; intro b9 hb1; rw [hN95] at hb1; (try simp only [setN, setN, if_true, if_false, reduceIte]) <;> (repeat' split) <;> first | rfl | (exfalso; omega) | exact rgt_at (by omega) rfl rfl | omega) (by clear hret hw hl M hK hZ hx hb; intro b9 hb1; rw [hN95] at hb1; (try simp only [setN, setN, if_true, if_false, reduceIte]) <;> (repeat' split) <;> first | rfl | (exfalso; omega) | exact cap_at (by omega) rfl rfl | omega) (by clear hret hw hl M hK hZ hx hb; intro b9 hb1; rw [hN95] at hb1; (try simp only [setN, setN, if_true, if_false, reduceIte]) <;> (repeat' split) <;> first | rfl | (exfalso; omega) | exact pck_at (by omega) rfl rfl | omega) (by clear hret hw hl M hK hZ hx hb; intro b9 k9 hb1 hk9; rw [hN95] at hb1; (try simp only [setN, setN, if_true, if_false, reduceIte]) <;> (repeat' split) <;> first | rfl | (exfalso; omega) | exact val_at (by omega) (by omega) rfl rfl | omega) (by clear hret hw hl M hK hZ hx hb; intro b9 k9 hb1 hk9; rw [hN95] at hb1; (try simp only [setN, setN, if_true, if_false, reduceIte]) <;> (repeat' split) <;> first | rfl | (exfalso; omega) | exact dem_at (by omega) (by omega) rfl rfl | omega) (by clear hret hw hl M hK hZ hx hb; intro b9 i9 k9 hb1 hi9 h39 hk9; rw [hN95] at hb1; simp only [setN, setN, if_true, if_false, reduceIte] at hi9; (try simp only [setN, setN, if_true, if_false, reduceIte]) <;> (repeat' split at hi9) <;> (repeat' split) <;> first | rfl | (exfalso; omega) | exact lot_at (by omega) (by omega) (by omega) (by omega) rfl rfl | omega) (by clear hret hw hl M hK hZ hx hb; intro b9 i9 hb1 hi9 h39; rw [hN95] at hb1; simp only [setN, setN, if_true, if_false, reduceIte] at hi9; (try simp only [setN, setN, if_true, if_false, reduceIte]) <;> (repeat' split at hi9) <;> (repeat' split) <;> first | rfl | (exfalso; omega) | exact wor_at (by omega) (by omega) (by omega) rfl rfl | omega)
        have hw : xW G A s.heap [aucW Y h (setN (setN (mRaise (mRaise (mRaise (cl1 ρ) 0) 1) 2) 1 0) 0 (ρ 0 + 1)) γ96] H locs := hw
        rw [← hM] at hw
        exact hret _ _ _ (nI 3) _ _ dX1_closeRound_107 hw rfl rfl ⟨by rw [hSc], _, rfl⟩
      refine lv_aload_n hx hb dX1_closeRound_10 rfl (lv_at hl 0 rfl) ?_
      refine x_get M hK hw 0 0 rfl rfl ff_X1_21 rfl dX1_closeRound_11 ?_
      refine lv_iload_n hx hb dX1_closeRound_14 rfl (lv_at hl 1 rfl) ?_
      refine lv_aload_n hx hb dX1_closeRound_15 rfl (lv_at hl 0 rfl) ?_
      refine x_get M hK hw 0 0 rfl rfl ff_X1_21 rfl dX1_closeRound_16 ?_
      refine lv_iload_n hx hb dX1_closeRound_19 rfl (lv_at hl 1 rfl) ?_
      refine x_iald M hK hw 0 4 rfl rfl (by omega) (by decide) dX1_closeRound_20 ?_
      refine x_topN (n := (clR ρ i) (14 + 21 * i)) (congrArg nI (rgt_at (j := i) (by omega) rfl (by omega))) ?_
      have q_97 : (clR ρ i) (14 + 21 * i) ≤ 99 := hIi.rgt (j := i) (by omega) (by omega)
      refine lv_aload_n hx hb dX1_closeRound_21 rfl (lv_at hl 0 rfl) ?_
      refine lv_iload_n hx hb dX1_closeRound_22 rfl (lv_at hl 1 rfl) ?_
      refine x_cVI (As := [.int (nI i)]) (k_X1_activity l G Y h i (clR ρ i) γi (hIi) (by omega)) cw_X1_106 [0] 0 0 M hK hZ hw hl.1 rfl (by decide) rfl rfl rfl ⟨by decide, by decide⟩ ⟨Nat.zero_le _, Nat.zero_le _⟩ rfl rfl (Nat.le_of_ble_eq_true rfl) dX1_closeRound_23 (fun r sg h_98 H locs hw => ?_)
      obtain ⟨rfl, rfl⟩ := h_98
      have hw : xW G A s.heap [aucW Y h (clR ρ i) γi] H locs := hw
      have q_99 : act (clR ρ i) i ≤ 243 := act_le hIi (by omega)
      refine lv_bipush (v := (nI 100)) hx hb dX1_closeRound_26 (by decide) ?_
      refine x_imul M (n := 100 * (act (clR ρ i) i)) dX1_closeRound_28 (by omega) ?_
      refine lv_aload_n hx hb dX1_closeRound_29 rfl (lv_at hl 0 rfl) ?_
      refine x_get M hK hw 0 0 rfl rfl ff_X1_56 rfl dX1_closeRound_30 ?_
      refine x_cNI (As := [.int (nI (100 * (act (clR ρ i) i))), .int (nI ((clR ρ i) 2))]) (k_X5_quotient l G Y (100 * (act (clR ρ i) i)) ((clR ρ i) 2) (by omega) (by omega) (by omega)) cw_X1_121 [] M hK hZ hw hl.1 rfl (by decide) ⟨by decide, by decide⟩ ⟨Nat.zero_le _, Nat.zero_le _⟩ rfl rfl (Nat.le_of_ble_eq_true rfl) dX1_closeRound_33 (fun r sg h_100 H locs hw => ?_)
      obtain ⟨rfl, rfl⟩ := h_100
      have hw : xW G A s.heap [aucW Y h (clR ρ i) γi] H locs := hw
      have q_101 : ((100 * (act (clR ρ i) i)) / ((clR ρ i) 2)) ≤ (100 * (act (clR ρ i) i)) := Nat.div_le_self _ _
      refine x_topN (n := ((100 * (act (clR ρ i) i)) / ((clR ρ i) 2))) (congrArg nI (by omega)) ?_
      refine x_min M hl.1 mw_289 mw_290 mw_13 mw_291 ⟨by decide, by decide⟩ ⟨Nat.zero_le _, Nat.zero_le _⟩ (Nat.le_of_ble_eq_true rfl) (by omega) (by omega) dX1_closeRound_36 ?_
      refine x_iast M hK hw 0 4 rfl rfl (by omega) (by decide) dX1_closeRound_39 (fun H locs hw => ?_)
      rw [upd_row] at hw
      have hw : xW G A s.heap [aucR Y h (supF (clR ρ i)) (ptsF (clR ρ i)) (priF (clR ρ i)) (setN (rgtF (clR ρ i) γi) i (min ((clR ρ i) (14 + 21 * i)) ((100 * (act (clR ρ i) i)) / ((clR ρ i) 2)))) (capF (clR ρ i) γi) (pckF (clR ρ i) γi) (valF (clR ρ i) γi) (demF (clR ρ i) γi) (lotF (clR ρ i) γi) (worF (clR ρ i) γi) ((clR ρ i) 4) ((clR ρ i) 0) ((clR ρ i) 1) ((clR ρ i) 2) ((clR ρ i) 3)] H locs := hw
      have hN102 : (clR ρ (1 + i)) 4 = (clR ρ i) 4 := by clear hret hw hl M hK hZ hx hb; simp only [clR_1, setN, if_true, if_false, reduceIte] <;> (repeat' split) <;> first | rfl | (exfalso; omega) | omega
      obtain ⟨γ103, hw⟩ := auc_fold (i := 0) (ρ' := clR ρ (1 + i)) hw rfl hN102.symm (by clear hret hw hl M hK hZ hx hb; simp only [clR_1, setN, if_true, if_false, reduceIte] <;> (repeat' split) <;> first | rfl | (exfalso; omega) | omega) (by clear hret hw hl M hK hZ hx hb; simp only [clR_1, setN, if_true, if_false, reduceIte] <;> (repeat' split) <;> first | rfl | (exfalso; omega) | omega) (by clear hret hw hl M hK hZ hx hb; simp only [clR_1, setN, if_true, if_false, reduceIte] <;> (repeat' split) <;> first | rfl | (exfalso; omega) | omega) (by clear hret hw hl M hK hZ hx hb; simp only [clR_1, setN, if_true, if_false, reduceIte] <;> (repeat' split) <;> first | rfl | (exfalso; omega) | omega) (by clear hret hw hl M hK hZ hx hb; intro k9 hk9; (try simp only [clR_1, setN, if_true, if_false, reduceIte, supF]) <;> (repeat' split) <;> first | rfl | (exfalso; omega) | omega) (by clear hret hw hl M hK hZ hx hb; intro k9 hk9; (try simp only [clR_1, setN, if_true, if_false, reduceIte, ptsF]) <;> (repeat' split) <;> first | rfl | (exfalso; omega) | omega) (by clear hret hw hl M hK hZ hx hb; intro k9 hk9; (try simp only [clR_1, setN, if_true, if_false, reduceIte, priF]) <;> (repeat' split) <;> first | rfl | (exfalso; omega) | omega) (by clear hret hw hl M hK hZ hx hb; intro b9 hb1; rw [hN102] at hb1; rcases Nat.lt_trichotomy b9 i with q9 | q9 | q9; (rw [clR_1o (by omega)]; (repeat rw [setN_n (by omega)]); exact rgt_at (by omega) rfl rfl); (subst q9; (try simp only [clR_1, setN, if_true, if_false, reduceIte]) <;> (repeat' split) <;> first | rfl | (exfalso; omega) | exact rgt_at (by omega) rfl rfl | omega); (rw [clR_1o (by omega)]; (repeat rw [setN_n (by omega)]); exact rgt_at (by omega) rfl rfl)) (by clear hret hw hl M hK hZ hx hb; intro b9 hb1; rw [hN102] at hb1; rcases Nat.lt_trichotomy b9 i with q9 | q9 | q9; (rw [clR_1o (by omega)]; (repeat rw [setN_n (by omega)]); exact cap_at (by omega) rfl rfl); (subst q9; (try simp only [clR_1, setN, if_true, if_false, reduceIte]) <;> (repeat' split) <;> first | rfl | (exfalso; omega) | exact cap_at (by omega) rfl rfl | omega); (rw [clR_1o (by omega)]; (repeat rw [setN_n (by omega)]); exact cap_at (by omega) rfl rfl)) (by clear hret hw hl M hK hZ hx hb; intro b9 hb1; rw [hN102] at hb1; rcases Nat.lt_trichotomy b9 i with q9 | q9 | q9; (rw [clR_1o (by omega)]; (repeat rw [setN_n (by omega)]); exact pck_at (by omega) rfl rfl); (subst q9; (try simp only [clR_1, setN, if_true, if_false, reduceIte]) <;> (repeat' split) <;> first | rfl | (exfalso; omega) | exact pck_at (by omega) rfl rfl | omega); (rw [clR_1o (by omega)]; (repeat rw [setN_n (by omega)]); exact pck_at (by omega) rfl rfl)) (by clear hret hw hl M hK hZ hx hb; intro b9 k9 hb1 hk9; rw [hN102] at hb1; rcases Nat.lt_trichotomy b9 i with q9 | q9 | q9; (rw [clR_1o (by omega)]; (repeat rw [setN_n (by omega)]); exact val_at (by omega) (by omega) rfl rfl); (subst q9; (try simp only [clR_1, setN, if_true, if_false, reduceIte]) <;> (repeat' split) <;> first | rfl | (exfalso; omega) | exact val_at (by omega) (by omega) rfl rfl | omega); (rw [clR_1o (by omega)]; (repeat rw [setN_n (by omega)]); exact val_at (by omega) (by omega) rfl rfl)) (by clear hret hw hl M hK hZ hx hb; intro b9 k9 hb1 hk9; rw [hN102] at hb1; rcases Nat.lt_trichotomy b9 i with q9 | q9 | q9; (rw [clR_1o (by omega)]; (repeat rw [setN_n (by omega)]); exact dem_at (by omega) (by omega) rfl rfl); (subst q9; (try simp only [clR_1, setN, if_true, if_false, reduceIte]) <;> (repeat' split) <;> first | rfl | (exfalso; omega) | exact dem_at (by omega) (by omega) rfl rfl | omega); (rw [clR_1o (by omega)]; (repeat rw [setN_n (by omega)]); exact dem_at (by omega) (by omega) rfl rfl)) (by clear hret hw hl M hK hZ hx hb; intro b9 i9 k9 hb1 hi9 h39 hk9; rw [hN102] at hb1; rcases Nat.lt_trichotomy b9 i with q9 | q9 | q9; (rw [clR_1o (by omega)]; rw [clR_1o (by omega)] at hi9; (repeat rw [setN_n (by omega)]); exact lot_at (by omega) (by omega) (by omega) (by omega) rfl rfl); (subst q9; simp only [clR_1, setN, if_true, if_false, reduceIte] at hi9; (try simp only [clR_1, setN, if_true, if_false, reduceIte]) <;> (repeat' split at hi9) <;> (repeat' split) <;> first | rfl | (exfalso; omega) | exact lot_at (by omega) (by omega) (by omega) (by omega) rfl rfl | omega); (rw [clR_1o (by omega)]; rw [clR_1o (by omega)] at hi9; (repeat rw [setN_n (by omega)]); exact lot_at (by omega) (by omega) (by omega) (by omega) rfl rfl)) (by clear hret hw hl M hK hZ hx hb; intro b9 i9 hb1 hi9 h39; rw [hN102] at hb1; rcases Nat.lt_trichotomy b9 i with q9 | q9 | q9; (rw [clR_1o (by omega)]; rw [clR_1o (by omega)] at hi9; (repeat rw [setN_n (by omega)]); exact wor_at (by omega) (by omega) (by omega) rfl rfl); (subst q9; simp only [clR_1, setN, if_true, if_false, reduceIte] at hi9; (try simp only [clR_1, setN, if_true, if_false, reduceIte]) <;> (repeat' split at hi9) <;> (repeat' split) <;> first | rfl | (exfalso; omega) | exact wor_at (by omega) (by omega) (by omega) rfl rfl | omega); (rw [clR_1o (by omega)]; rw [clR_1o (by omega)] at hi9; (repeat rw [setN_n (by omega)]); exact wor_at (by omega) (by omega) (by omega) rfl rfl))
      have hw : xW G A s.heap [aucW Y h (clR ρ (1 + i)) γ103] H locs := hw
      refine lv_iinc (v := (nI (1 + i))) (lv' := [(1, .int (nI (1 + i))), (0, .ref h)]) hx hb dX1_closeRound_40 hl (k := 1) rfl (by rw [show (1 : Int) = ((1 : Nat) : Int) from rfl, nI_inc]; exact congrArg nI (by omega)) (by decide) rfl (fun ls hl => ?_)
      refine lv_goto (tgt := 2) hx hb dX1_closeRound_43 (by decide) ?_
      exact ih2 (1 + i) γ103 (by omega) (by omega) _ _ hw _ (lv_sub hl [1, 0] rfl)
  exact L2 (ρ 4 - 0 + 1) 0 γ (Nat.lt_succ_self _) (by omega) _ _ hw _ (lv_sub hl [1, 0] rfl)
