theorem raise_row {ρ : Nat → Nat} {k v c q : Nat} (hc : c = 11 + k) (hv : v = min 99999 (ρ c + max 1 (ρ c * ρ 3 / 100))) : mRaise ρ k q = setN ρ c v q := by subst hc hv; rfl
set_option maxHeartbeats 4000000 in
set_option maxRecDepth 20000 in
theorem k_X6_copyState (l : Launch) (G : va_G) (Y : Nat → Nat) (a b n1 n2 fa ta : Nat) (f g : Nat → Nat) (h1 : fa + 140 ≤ n1) (h2 : ta + 140 ≤ n2) (h3 : n1 < 2 ^ 31) (h4 : n2 < 2 ^ 31) : CtV l yX6_copyState cX6_copyState 5 0 0 [.ref a, .int (nI fa), .ref b, .int (nI ta)] [[(a, .inl (Y 0, n1, .inl (rowF f)))], [(b, .inl (Y 0, n2, .inl (rowF g)))]] (fun sg => sg = [[(a, .inl (Y 0, n1, .inl (rowF f)))], [(b, .inl (Y 0, n2, .inl (rowF (cpS f g fa ta 140))))]]) G Y := by
  refine x_ofV (by decide) (Nat.le_of_ble_eq_true rfl) (fun p e s m args below meth c A ls Q M hK hZ hw hl hret => ?_)
  obtain ⟨hx, hb, -⟩ := id M
  have hl : lv_has ls 5 [(0, .ref a), (1, .int (nI fa)), (2, .ref b), (3, .int (nI ta))] := hl
  refine lv_iconst (v := (nI 0)) hx hb dX6_copyState_0 (by decide) ?_
  refine lv_istore (lv' := [(4, .int (nI 0)), (0, .ref a), (1, .int (nI fa)), (2, .ref b), (3, .int (nI ta))]) hx hb dX6_copyState_1 hl (by decide) rfl (fun ls hl => ?_)
  have L3 : ∀ (fu : Nat) (i : Nat) (g2 : Nat → Nat), (140 - i < fu) → (i ≤ 140) → (g2 = cpS f g fa ta i) → ∀ (H : Heap) (locs : List Loc), xW G A s.heap [[(a, .inl (Y 0, n1, .inl (rowF f)))], [(b, .inl (Y 0, n2, .inl (rowF g2)))]] H locs → ∀ (ls : Array Slot), lv_has ls 5 [(0, .ref a), (1, .int (nI fa)), (2, .ref b), (3, .int (nI ta)), (4, .int (nI i))] → W p l e (xRm 0 0) s m args below meth c H locs 0 0 Q (F0 m 3 ls []) := by
    intro fu
    induction fu with
    | zero => intro i g2 hm; exact absurd hm (Nat.not_lt_zero _)
    | succ fu ih3 =>
      intro i g2 hm hi hg H locs hw ls hl
      refine lv_iload hx hb dX6_copyState_3 (lv_at hl 4 rfl) ?_
      refine lv_sipush (v := (nI 140)) hx hb dX6_copyState_5 (by decide) ?_
      refine x_cge M (tgt := 29) (by omega) (by decide) dX6_copyState_8 (by decide) (fun c_1 => ?_) (fun c_1 => ?_)
      · exact hret _ _ _ _ _ dX6_copyState_29 hw rfl (by rw [hg, show i = 140 by omega])
      refine lv_aload_n hx hb dX6_copyState_11 rfl (lv_at hl 2 rfl) ?_
      refine lv_iload_n hx hb dX6_copyState_12 rfl (lv_at hl 3 rfl) ?_
      refine lv_iload hx hb dX6_copyState_13 (lv_at hl 4 rfl) ?_
      refine x_iadd M (n := ta + i) dX6_copyState_15 rfl ?_
      refine lv_aload_n hx hb dX6_copyState_16 rfl (lv_at hl 0 rfl) ?_
      refine lv_iload_n hx hb dX6_copyState_17 rfl (lv_at hl 1 rfl) ?_
      refine lv_iload hx hb dX6_copyState_18 (lv_at hl 4 rfl) ?_
      refine x_iadd M (n := fa + i) dX6_copyState_20 rfl ?_
      refine x_iald M hK hw 0 0 rfl rfl (by omega) (by omega) dX6_copyState_21 ?_
      refine x_iast M hK hw 1 0 rfl rfl (by omega) (by omega) dX6_copyState_22 (fun H locs hw => ?_)
      rw [upd_row] at hw
      have hw : xW G A s.heap [[(a, .inl (Y 0, n1, .inl (rowF f)))], [(b, .inl (Y 0, n2, .inl (rowF (setN g2 (ta + i) (f (fa + i))))))]] H locs := hw
      refine lv_iinc (v := (nI (1 + i))) (lv' := [(4, .int (nI (1 + i))), (0, .ref a), (1, .int (nI fa)), (2, .ref b), (3, .int (nI ta))]) hx hb dX6_copyState_23 hl (k := 4) rfl (by rw [show (1 : Int) = ((1 : Nat) : Int) from rfl, nI_inc]; exact congrArg nI (by omega)) (by decide) rfl (fun ls hl => ?_)
      refine lv_goto (tgt := 3) hx hb dX6_copyState_26 (by decide) ?_
      exact ih3 (1 + i) (setN g2 (ta + i) (f (fa + i))) (by omega) (by omega) (by rw [hg]; exact cpS_1) _ _ hw _ (lv_sub hl [1, 2, 3, 4, 0] rfl)
  exact L3 (140 - 0 + 1) 0 g (Nat.lt_succ_self _) (by omega) (cpS_0.symm) _ _ hw _ (lv_sub hl [1, 2, 3, 4, 0] rfl)
set_option maxHeartbeats 4000000 in
set_option maxRecDepth 20000 in
theorem k_X6_closeOn (l : Launch) (G : va_G) (Y : Nat → Nat) (a : Nat) (ρ : Nat → Nat) (hI : Inv ρ) : CtI l yX6_closeOn cX6_closeOn 4 .int 3 65 [.ref a] [[(a, .inl (Y 0, 140, .inl (rowF ρ)))]] (fun r sg => r = nI (scarce (cl1 ρ)) ∧ sg = [[(a, .inl (Y 0, 140, .inl (rowF (mClose ρ))))]]) G Y := by
  refine x_ofI (by decide) (Nat.le_of_ble_eq_true rfl) (fun p e s m args below meth c A ls Q M hK hZ hw hl hret => ?_)
  obtain ⟨hx, hb, -⟩ := id M
  have hl : lv_has ls 4 [(0, .ref a)] := hl
  have := hI.n6
  have := hI.over
  have := hI.keep
  have := hI.stepp
  refine lv_iconst (v := (nI 0)) hx hb dX6_closeOn_0 (by decide) ?_
  refine lv_istore_n (lv' := [(1, .int (nI 0)), (0, .ref a)]) hx hb dX6_closeOn_1 rfl hl (by decide) rfl (fun ls hl => ?_)
  have L2 : ∀ (fu : Nat) (i : Nat), (ρ 4 - i < fu) → (i ≤ ρ 4) → ∀ (H : Heap) (locs : List Loc), xW G A s.heap [[(a, .inl (Y 0, 140, .inl (rowF (clR ρ i))))]] H locs → ∀ (ls : Array Slot), lv_has ls 4 [(0, .ref a), (1, .int (nI i))] → W p l e (xRm 3 65) s m args below meth c H locs 0 0 Q (F0 m 2 ls []) := by
    intro fu
    induction fu with
    | zero => intro i hm; exact absurd hm (Nat.not_lt_zero _)
    | succ fu ih2 =>
      intro i hm hi H locs hw ls hl
      have hIi := Inv_clR hI hi
      have e4 : clR ρ i 4 = ρ 4 := clR_4
      have := hIi.keep
      refine lv_iload_n hx hb dX6_closeOn_2 rfl (lv_at hl 1 rfl) ?_
      refine lv_aload_n hx hb dX6_closeOn_3 rfl (lv_at hl 0 rfl) ?_
      refine lv_iconst (v := (nI 4)) hx hb dX6_closeOn_4 (by decide) ?_
      refine x_iald M hK hw 0 0 rfl rfl (by decide) (by decide) dX6_closeOn_5 ?_
      refine x_topN (n := (clR ρ i) 4) rfl ?_
      have q_1 : (clR ρ i) 4 ≤ 6 := hIi.n6
      refine x_cge M (tgt := 46) (by omega) (by omega) dX6_closeOn_6 (by decide) (fun c_2 => ?_) (fun c_2 => ?_)
      · obtain rfl : i = ρ 4 := by omega
        have hI1 := Inv_cl1 hI
        have hs3 : scarce (cl1 ρ) ≤ 3 := by clear hret hw hl M hK hZ hx hb; simp only [scarce, scar]; (repeat' split) <;> omega
        have e40 : cl1 ρ 4 = ρ 4 := clR_4
        have e00 : cl1 ρ 0 = ρ 0 := clR_o (fun c _ => by omega)
        have hw : xW G A s.heap [[(a, .inl (Y 0, 140, .inl (rowF (cl1 ρ))))]] H locs := hw
        have := hI1.stepp
        refine lv_aload_n hx hb dX6_closeOn_46 rfl (lv_at hl 0 rfl) ?_
        refine x_cSI (As := [.ref a]) (k_X6_excess l G Y a (cl1 ρ) (hI1)) cw_X6_70 [0] M hK hZ hw hl.1 rfl (by decide) ⟨by decide, by decide⟩ ⟨Nat.zero_le _, Nat.zero_le _⟩ rfl rfl (Nat.le_of_ble_eq_true rfl) dX6_closeOn_47 (fun r sg h_3 H locs hw => ?_)
        obtain ⟨rfl, rfl⟩ := h_3
        have hw : xW G A s.heap [[(a, .inl (Y 0, 140, .inl (rowF (cl1 ρ))))]] H locs := hw
        refine lv_istore_n (lv' := [(1, .int (nI (scarce (cl1 ρ)))), (0, .ref a)]) hx hb dX6_closeOn_50 rfl hl (by decide) rfl (fun ls hl => ?_)
        refine lv_iconst (v := (nI 0)) hx hb dX6_closeOn_51 (by decide) ?_
        refine lv_istore_n (lv' := [(2, .int (nI 0)), (1, .int (nI (scarce (cl1 ρ)))), (0, .ref a)]) hx hb dX6_closeOn_52 rfl hl (by decide) rfl (fun ls hl => ?_)
        refine lv_iload_n hx hb dX6_closeOn_53 rfl (lv_at hl 0 rfl) ?_
        refine lv_iconst (v := (nI 3)) hx hb dX6_closeOn_54 (by decide) ?_
        refine x_cge M (tgt := 119) (by decide) (by decide) dX6_closeOn_55 (by decide) (fun c_4 => absurd c_4 (by decide)) (fun c_4 => ?_)
        refine lv_aload_n hx hb dX6_closeOn_58 rfl (lv_at hl 2 rfl) ?_
        refine lv_iload_n hx hb dX6_closeOn_59 rfl (lv_at hl 0 rfl) ?_
        refine x_cSI (As := [.ref a, .int (nI 0)]) (k_X6_asked l G Y a 0 (cl1 ρ) (hI1) (by omega)) cw_X6_53 [0] M hK hZ hw hl.1 rfl (by decide) ⟨by decide, by decide⟩ ⟨Nat.zero_le _, Nat.zero_le _⟩ rfl rfl (Nat.le_of_ble_eq_true rfl) dX6_closeOn_60 (fun r sg h_5 H locs hw => ?_)
        obtain ⟨rfl, rfl⟩ := h_5
        have hw : xW G A s.heap [[(a, .inl (Y 0, 140, .inl (rowF (cl1 ρ))))]] H locs := hw
        have q_6 : askedOf (cl1 ρ) 0 ≤ 54 := askedOf_le hI1 (by omega)
        refine lv_aload_n hx hb dX6_closeOn_63 rfl (lv_at hl 2 rfl) ?_
        refine lv_iconst (v := (nI 5)) hx hb dX6_closeOn_64 (by decide) ?_
        refine lv_iload_n hx hb dX6_closeOn_65 rfl (lv_at hl 0 rfl) ?_
        refine x_iadd M (n := 5) dX6_closeOn_66 rfl ?_
        refine x_iald M hK hw 0 0 rfl rfl (by decide) (by decide) dX6_closeOn_67 ?_
        refine x_topN (n := (cl1 ρ) 5) rfl ?_
        have q_7 : 1 ≤ (cl1 ρ) 5 := (hI1.sup (q := 5) (k := 0) (by decide) rfl).1
        have q_8 : (cl1 ρ) 5 ≤ 9 := (hI1.sup (q := 5) (k := 0) (by decide) rfl).2
        refine x_cle M (tgt := 113) (by omega) (by omega) dX6_closeOn_68 (by decide) (fun c_9 => ?_) (fun c_9 => ?_)
        · refine lv_iinc (v := (nI 1)) (lv' := [(2, .int (nI 1)), (1, .int (nI (scarce (cl1 ρ)))), (0, .ref a)]) hx hb dX6_closeOn_113 hl (k := 0) rfl (by decide) (by decide) rfl (fun ls hl => ?_)
          refine lv_goto (tgt := 53) hx hb dX6_closeOn_116 (by decide) ?_
          refine lv_iload_n hx hb dX6_closeOn_53 rfl (lv_at hl 0 rfl) ?_
          refine lv_iconst (v := (nI 3)) hx hb dX6_closeOn_54 (by decide) ?_
          refine x_cge M (tgt := 119) (by decide) (by decide) dX6_closeOn_55 (by decide) (fun c_10 => absurd c_10 (by decide)) (fun c_10 => ?_)
          refine lv_aload_n hx hb dX6_closeOn_58 rfl (lv_at hl 2 rfl) ?_
          refine lv_iload_n hx hb dX6_closeOn_59 rfl (lv_at hl 0 rfl) ?_
          refine x_cSI (As := [.ref a, .int (nI 1)]) (k_X6_asked l G Y a 1 (cl1 ρ) (hI1) (by omega)) cw_X6_53 [0] M hK hZ hw hl.1 rfl (by decide) ⟨by decide, by decide⟩ ⟨Nat.zero_le _, Nat.zero_le _⟩ rfl rfl (Nat.le_of_ble_eq_true rfl) dX6_closeOn_60 (fun r sg h_11 H locs hw => ?_)
          obtain ⟨rfl, rfl⟩ := h_11
          have hw : xW G A s.heap [[(a, .inl (Y 0, 140, .inl (rowF (cl1 ρ))))]] H locs := hw
          have q_12 : askedOf (cl1 ρ) 1 ≤ 54 := askedOf_le hI1 (by omega)
          refine lv_aload_n hx hb dX6_closeOn_63 rfl (lv_at hl 2 rfl) ?_
          refine lv_iconst (v := (nI 5)) hx hb dX6_closeOn_64 (by decide) ?_
          refine lv_iload_n hx hb dX6_closeOn_65 rfl (lv_at hl 0 rfl) ?_
          refine x_iadd M (n := 6) dX6_closeOn_66 rfl ?_
          refine x_iald M hK hw 0 0 rfl rfl (by decide) (by decide) dX6_closeOn_67 ?_
          refine x_topN (n := (cl1 ρ) 6) rfl ?_
          have q_13 : 1 ≤ (cl1 ρ) 6 := (hI1.sup (q := 6) (k := 1) (by decide) rfl).1
          have q_14 : (cl1 ρ) 6 ≤ 9 := (hI1.sup (q := 6) (k := 1) (by decide) rfl).2
          refine x_cle M (tgt := 113) (by omega) (by omega) dX6_closeOn_68 (by decide) (fun c_15 => ?_) (fun c_15 => ?_)
          · refine lv_iinc (v := (nI 2)) (lv' := [(2, .int (nI 2)), (1, .int (nI (scarce (cl1 ρ)))), (0, .ref a)]) hx hb dX6_closeOn_113 hl (k := 0) rfl (by decide) (by decide) rfl (fun ls hl => ?_)
            refine lv_goto (tgt := 53) hx hb dX6_closeOn_116 (by decide) ?_
            refine lv_iload_n hx hb dX6_closeOn_53 rfl (lv_at hl 0 rfl) ?_
            refine lv_iconst (v := (nI 3)) hx hb dX6_closeOn_54 (by decide) ?_
            refine x_cge M (tgt := 119) (by decide) (by decide) dX6_closeOn_55 (by decide) (fun c_16 => absurd c_16 (by decide)) (fun c_16 => ?_)
            refine lv_aload_n hx hb dX6_closeOn_58 rfl (lv_at hl 2 rfl) ?_
            refine lv_iload_n hx hb dX6_closeOn_59 rfl (lv_at hl 0 rfl) ?_
            refine x_cSI (As := [.ref a, .int (nI 2)]) (k_X6_asked l G Y a 2 (cl1 ρ) (hI1) (by omega)) cw_X6_53 [0] M hK hZ hw hl.1 rfl (by decide) ⟨by decide, by decide⟩ ⟨Nat.zero_le _, Nat.zero_le _⟩ rfl rfl (Nat.le_of_ble_eq_true rfl) dX6_closeOn_60 (fun r sg h_17 H locs hw => ?_)
            obtain ⟨rfl, rfl⟩ := h_17
            have hw : xW G A s.heap [[(a, .inl (Y 0, 140, .inl (rowF (cl1 ρ))))]] H locs := hw
            have q_18 : askedOf (cl1 ρ) 2 ≤ 54 := askedOf_le hI1 (by omega)
            refine lv_aload_n hx hb dX6_closeOn_63 rfl (lv_at hl 2 rfl) ?_
            refine lv_iconst (v := (nI 5)) hx hb dX6_closeOn_64 (by decide) ?_
            refine lv_iload_n hx hb dX6_closeOn_65 rfl (lv_at hl 0 rfl) ?_
            refine x_iadd M (n := 7) dX6_closeOn_66 rfl ?_
            refine x_iald M hK hw 0 0 rfl rfl (by decide) (by decide) dX6_closeOn_67 ?_
            refine x_topN (n := (cl1 ρ) 7) rfl ?_
            have q_19 : 1 ≤ (cl1 ρ) 7 := (hI1.sup (q := 7) (k := 2) (by decide) rfl).1
            have q_20 : (cl1 ρ) 7 ≤ 9 := (hI1.sup (q := 7) (k := 2) (by decide) rfl).2
            refine x_cle M (tgt := 113) (by omega) (by omega) dX6_closeOn_68 (by decide) (fun c_21 => ?_) (fun c_21 => ?_)
            · refine lv_iinc (v := (nI 3)) (lv' := [(2, .int (nI 3)), (1, .int (nI (scarce (cl1 ρ)))), (0, .ref a)]) hx hb dX6_closeOn_113 hl (k := 0) rfl (by decide) (by decide) rfl (fun ls hl => ?_)
              refine lv_goto (tgt := 53) hx hb dX6_closeOn_116 (by decide) ?_
              refine lv_iload_n hx hb dX6_closeOn_53 rfl (lv_at hl 0 rfl) ?_
              refine lv_iconst (v := (nI 3)) hx hb dX6_closeOn_54 (by decide) ?_
              refine x_cge M (tgt := 119) (by decide) (by decide) dX6_closeOn_55 (by decide) (fun c_22 => ?_) (fun c_22 => absurd c_22 (by decide))
              refine lv_aload_n hx hb dX6_closeOn_119 rfl (lv_at hl 2 rfl) ?_
              refine lv_iconst (v := (nI 1)) hx hb dX6_closeOn_120 (by decide) ?_
              refine lv_iload_n hx hb dX6_closeOn_121 rfl (lv_at hl 1 rfl) ?_
              refine x_zne M (tgt := 129) (by omega) dX6_closeOn_122 (by decide) (fun c_23 => ?_) (fun c_23 => ?_)
              · refine lv_iconst (v := (nI 0)) hx hb dX6_closeOn_129 (by decide) ?_
                refine x_iast M hK hw 0 0 rfl rfl (by decide) (by decide) dX6_closeOn_130 (fun H locs hw => ?_)
                rw [upd_row] at hw
                have hw : xW G A s.heap [[(a, .inl (Y 0, 140, .inl (rowF (setN (cl1 ρ) 1 0))))]] H locs := hw
                refine lv_aload_n hx hb dX6_closeOn_131 rfl (lv_at hl 2 rfl) ?_
                refine lv_iconst (v := (nI 0)) hx hb dX6_closeOn_132 (by decide) ?_
                refine lv_dup2_11 hx hb dX6_closeOn_133 rfl rfl ?_
                refine x_iald M hK hw 0 0 rfl rfl (by decide) (by decide) dX6_closeOn_134 ?_
                refine x_topN (n := (cl1 ρ) 0) (congrArg nI ((setN_n (by omega)).trans rfl)) ?_
                refine lv_iconst (v := (nI 1)) hx hb dX6_closeOn_135 (by decide) ?_
                refine x_iadd M (n := 1 + (cl1 ρ) 0) dX6_closeOn_136 (by omega) ?_
                refine x_iast M hK hw 0 0 rfl rfl (by decide) (by decide) dX6_closeOn_137 (fun H locs hw => ?_)
                rw [upd_row] at hw
                have hw : xW G A s.heap [[(a, .inl (Y 0, 140, .inl (rowF (setN (setN (cl1 ρ) 1 0) 0 (1 + (cl1 ρ) 0)))))]] H locs := hw
                refine lv_iload_n hx hb dX6_closeOn_138 rfl (lv_at hl 1 rfl) ?_
                have hQ : clQ (cl1 ρ) = cl1 ρ := by unfold clQ; rw [show clP (cl1 ρ) 0 = cl1 ρ from if_neg (Nat.not_lt.mpr c_9), show clP (cl1 ρ) 1 = cl1 ρ from if_neg (Nat.not_lt.mpr c_15), show clP (cl1 ρ) 2 = cl1 ρ from if_neg (Nat.not_lt.mpr c_21)]
                have hM : mClose ρ = setN (setN (cl1 ρ) 1 0) 0 (ρ 0 + 1) := by unfold mClose; rw [hQ, if_neg (by omega)]
                rw [show 1 + (cl1 ρ) 0 = ρ 0 + 1 by omega, ← hM] at hw
                exact hret _ _ _ (nI (scarce (cl1 ρ))) _ _ dX6_closeOn_139 hw rfl rfl ⟨rfl, rfl⟩
              refine lv_iconst (v := (nI 1)) hx hb dX6_closeOn_125 (by decide) ?_
              refine lv_goto (tgt := 130) hx hb dX6_closeOn_126 (by decide) ?_
              refine x_iast M hK hw 0 0 rfl rfl (by decide) (by decide) dX6_closeOn_130 (fun H locs hw => ?_)
              rw [upd_row] at hw
              have hw : xW G A s.heap [[(a, .inl (Y 0, 140, .inl (rowF (setN (cl1 ρ) 1 1))))]] H locs := hw
              refine lv_aload_n hx hb dX6_closeOn_131 rfl (lv_at hl 2 rfl) ?_
              refine lv_iconst (v := (nI 0)) hx hb dX6_closeOn_132 (by decide) ?_
              refine lv_dup2_11 hx hb dX6_closeOn_133 rfl rfl ?_
              refine x_iald M hK hw 0 0 rfl rfl (by decide) (by decide) dX6_closeOn_134 ?_
              refine x_topN (n := (cl1 ρ) 0) (congrArg nI ((setN_n (by omega)).trans rfl)) ?_
              refine lv_iconst (v := (nI 1)) hx hb dX6_closeOn_135 (by decide) ?_
              refine x_iadd M (n := 1 + (cl1 ρ) 0) dX6_closeOn_136 (by omega) ?_
              refine x_iast M hK hw 0 0 rfl rfl (by decide) (by decide) dX6_closeOn_137 (fun H locs hw => ?_)
              rw [upd_row] at hw
              have hw : xW G A s.heap [[(a, .inl (Y 0, 140, .inl (rowF (setN (setN (cl1 ρ) 1 1) 0 (1 + (cl1 ρ) 0)))))]] H locs := hw
              refine lv_iload_n hx hb dX6_closeOn_138 rfl (lv_at hl 1 rfl) ?_
              have hQ : clQ (cl1 ρ) = cl1 ρ := by unfold clQ; rw [show clP (cl1 ρ) 0 = cl1 ρ from if_neg (Nat.not_lt.mpr c_9), show clP (cl1 ρ) 1 = cl1 ρ from if_neg (Nat.not_lt.mpr c_15), show clP (cl1 ρ) 2 = cl1 ρ from if_neg (Nat.not_lt.mpr c_21)]
              have hM : mClose ρ = setN (setN (cl1 ρ) 1 1) 0 (ρ 0 + 1) := by unfold mClose; rw [hQ, if_pos (by omega)]
              rw [show 1 + (cl1 ρ) 0 = ρ 0 + 1 by omega, ← hM] at hw
              exact hret _ _ _ (nI (scarce (cl1 ρ))) _ _ dX6_closeOn_139 hw rfl rfl ⟨rfl, rfl⟩
            refine lv_aload_n hx hb dX6_closeOn_71 rfl (lv_at hl 2 rfl) ?_
            refine lv_bipush (v := (nI 11)) hx hb dX6_closeOn_72 (by decide) ?_
            refine lv_iload_n hx hb dX6_closeOn_74 rfl (lv_at hl 0 rfl) ?_
            refine x_iadd M (n := 13) dX6_closeOn_75 rfl ?_
            refine x_iald M hK hw 0 0 rfl rfl (by decide) (by decide) dX6_closeOn_76 ?_
            refine x_topN (n := (cl1 ρ) 13) rfl ?_
            have q_24 : 1 ≤ (cl1 ρ) 13 := (hI1.pri (q := 13) (k := 2) (by decide) rfl).1
            have q_25 : (cl1 ρ) 13 ≤ 99999 := (hI1.pri (q := 13) (k := 2) (by decide) rfl).2
            refine lv_aload_n hx hb dX6_closeOn_77 rfl (lv_at hl 2 rfl) ?_
            refine lv_iconst (v := (nI 3)) hx hb dX6_closeOn_78 (by decide) ?_
            refine x_iald M hK hw 0 0 rfl rfl (by decide) (by decide) dX6_closeOn_79 ?_
            refine x_topN (n := (cl1 ρ) 3) rfl ?_
            have q_26 : 1 ≤ (cl1 ρ) 3 := (hI1.stepp).1
            have q_27 : (cl1 ρ) 3 ≤ 50 := (hI1.stepp).2
            refine x_imul M (n := ((cl1 ρ) 13) * ((cl1 ρ) 3)) dX6_closeOn_80 rfl ?_
            have q_28 : ((cl1 ρ) 13) * ((cl1 ρ) 3) ≤ 4999950 := Nat.le_trans (Nat.mul_le_mul (show (cl1 ρ) 13 ≤ 99999 by omega) (show (cl1 ρ) 3 ≤ 50 by omega)) (by decide)
            refine lv_bipush (v := (nI 100)) hx hb dX6_closeOn_81 (by decide) ?_
            refine x_idiv M (n := (((cl1 ρ) 13) * ((cl1 ρ) 3)) / 100) dX6_closeOn_83 (by omega) (by omega) (by decide) rfl ?_
            refine lv_istore_n (lv' := [(3, .int (nI ((((cl1 ρ) 13) * ((cl1 ρ) 3)) / 100))), (2, .int (nI 2)), (1, .int (nI (scarce (cl1 ρ)))), (0, .ref a)]) hx hb dX6_closeOn_84 rfl hl (by decide) rfl (fun ls hl => ?_)
            refine lv_aload_n hx hb dX6_closeOn_85 rfl (lv_at hl 3 rfl) ?_
            refine lv_bipush (v := (nI 11)) hx hb dX6_closeOn_86 (by decide) ?_
            refine lv_iload_n hx hb dX6_closeOn_88 rfl (lv_at hl 1 rfl) ?_
            refine x_iadd M (n := 13) dX6_closeOn_89 rfl ?_
            refine lv_ldc (v := (nI 99999)) hx hb M.2.2.2.1 (M.2.2.2.2 _ mw_1137) dX6_closeOn_90 ?_
            refine lv_aload_n hx hb dX6_closeOn_92 rfl (lv_at hl 3 rfl) ?_
            refine lv_bipush (v := (nI 11)) hx hb dX6_closeOn_93 (by decide) ?_
            refine lv_iload_n hx hb dX6_closeOn_95 rfl (lv_at hl 1 rfl) ?_
            refine x_iadd M (n := 13) dX6_closeOn_96 rfl ?_
            refine x_iald M hK hw 0 0 rfl rfl (by decide) (by decide) dX6_closeOn_97 ?_
            refine x_topN (n := (cl1 ρ) 13) rfl ?_
            refine lv_iload_n hx hb dX6_closeOn_98 rfl (lv_at hl 0 rfl) ?_
            refine lv_iconst (v := (nI 1)) hx hb dX6_closeOn_99 (by decide) ?_
            refine x_cge M (tgt := 107) (by omega) (by decide) dX6_closeOn_100 (by decide) (fun c_29 => ?_) (fun c_29 => ?_)
            · refine lv_iload_n hx hb dX6_closeOn_107 rfl (lv_at hl 0 rfl) ?_
              refine x_iadd M (n := (cl1 ρ) 13 + ((((cl1 ρ) 13) * ((cl1 ρ) 3)) / 100)) dX6_closeOn_108 rfl ?_
              refine x_cSI (As := [.int (nI 99999), .int (nI ((cl1 ρ) 13 + ((((cl1 ρ) 13) * ((cl1 ρ) 3)) / 100)))]) (k_X6_less l G Y 99999 ((cl1 ρ) 13 + ((((cl1 ρ) 13) * ((cl1 ρ) 3)) / 100)) (by omega) (by omega)) cw_X6_61 [] M hK hZ hw hl.1 rfl (by decide) ⟨by decide, by decide⟩ ⟨Nat.zero_le _, Nat.zero_le _⟩ rfl rfl (Nat.le_of_ble_eq_true rfl) dX6_closeOn_109 (fun r sg h_30 H locs hw => ?_)
              obtain ⟨rfl, rfl⟩ := h_30
              have hw : xW G A s.heap [[(a, .inl (Y 0, 140, .inl (rowF (cl1 ρ))))]] H locs := hw
              refine x_iast M hK hw 0 0 rfl rfl (by decide) (by decide) dX6_closeOn_112 (fun H locs hw => ?_)
              rw [upd_row] at hw
              have hw : xW G A s.heap [[(a, .inl (Y 0, 140, .inl (rowF (setN (cl1 ρ) 13 (min 99999 ((cl1 ρ) 13 + ((((cl1 ρ) 13) * ((cl1 ρ) 3)) / 100)))))))]] H locs := hw
              have hw := row_fold (i := 0) (f' := rowF (mRaise (cl1 ρ) 2)) hw rfl (fun q hq => congrArg nI (raise_row (k := 2) rfl (by omega)))
              have hw : xW G A s.heap [[(a, .inl (Y 0, 140, .inl (rowF (mRaise (cl1 ρ) 2))))]] H locs := hw
              have hI31 := Inv_raise hI1 (k := 2) (by decide)
              have := hI31.stepp
              have := hI31.n6
              have : (mRaise (cl1 ρ) 2) 5 = (cl1 ρ) 5 := raise_o (by decide)
              have : askedOf (mRaise (cl1 ρ) 2) 0 = askedOf (cl1 ρ) 0 := asked_raise (by decide)
              have : (mRaise (cl1 ρ) 2) 6 = (cl1 ρ) 6 := raise_o (by decide)
              have : askedOf (mRaise (cl1 ρ) 2) 1 = askedOf (cl1 ρ) 1 := asked_raise (by decide)
              have : askedOf (mRaise (cl1 ρ) 2) 2 = askedOf (cl1 ρ) 2 := asked_raise (by decide)
              have : (mRaise (cl1 ρ) 2) 0 = (cl1 ρ) 0 := raise_o (by decide)
              have : (mRaise (cl1 ρ) 2) 4 = (cl1 ρ) 4 := raise_o (by decide)
              have : (mRaise (cl1 ρ) 2) 5 = (cl1 ρ) 5 := raise_o (by decide)
              refine lv_iinc (v := (nI 3)) (lv' := [(2, .int (nI 3)), (3, .int (nI ((((cl1 ρ) 13) * ((cl1 ρ) 3)) / 100))), (1, .int (nI (scarce (cl1 ρ)))), (0, .ref a)]) hx hb dX6_closeOn_113 hl (k := 1) rfl (by decide) (by decide) rfl (fun ls hl => ?_)
              refine lv_goto (tgt := 53) hx hb dX6_closeOn_116 (by decide) ?_
              refine lv_iload_n hx hb dX6_closeOn_53 rfl (lv_at hl 0 rfl) ?_
              refine lv_iconst (v := (nI 3)) hx hb dX6_closeOn_54 (by decide) ?_
              refine x_cge M (tgt := 119) (by decide) (by decide) dX6_closeOn_55 (by decide) (fun c_32 => ?_) (fun c_32 => absurd c_32 (by decide))
              refine lv_aload_n hx hb dX6_closeOn_119 rfl (lv_at hl 3 rfl) ?_
              refine lv_iconst (v := (nI 1)) hx hb dX6_closeOn_120 (by decide) ?_
              refine lv_iload_n hx hb dX6_closeOn_121 rfl (lv_at hl 2 rfl) ?_
              refine x_zne M (tgt := 129) (by omega) dX6_closeOn_122 (by decide) (fun c_33 => ?_) (fun c_33 => ?_)
              · refine lv_iconst (v := (nI 0)) hx hb dX6_closeOn_129 (by decide) ?_
                refine x_iast M hK hw 0 0 rfl rfl (by decide) (by decide) dX6_closeOn_130 (fun H locs hw => ?_)
                rw [upd_row] at hw
                have hw : xW G A s.heap [[(a, .inl (Y 0, 140, .inl (rowF (setN (mRaise (cl1 ρ) 2) 1 0))))]] H locs := hw
                refine lv_aload_n hx hb dX6_closeOn_131 rfl (lv_at hl 3 rfl) ?_
                refine lv_iconst (v := (nI 0)) hx hb dX6_closeOn_132 (by decide) ?_
                refine lv_dup2_11 hx hb dX6_closeOn_133 rfl rfl ?_
                refine x_iald M hK hw 0 0 rfl rfl (by decide) (by decide) dX6_closeOn_134 ?_
                refine x_topN (n := (mRaise (cl1 ρ) 2) 0) (congrArg nI ((setN_n (by omega)).trans rfl)) ?_
                refine lv_iconst (v := (nI 1)) hx hb dX6_closeOn_135 (by decide) ?_
                refine x_iadd M (n := 1 + (mRaise (cl1 ρ) 2) 0) dX6_closeOn_136 (by omega) ?_
                refine x_iast M hK hw 0 0 rfl rfl (by decide) (by decide) dX6_closeOn_137 (fun H locs hw => ?_)
                rw [upd_row] at hw
                have hw : xW G A s.heap [[(a, .inl (Y 0, 140, .inl (rowF (setN (setN (mRaise (cl1 ρ) 2) 1 0) 0 (1 + (mRaise (cl1 ρ) 2) 0)))))]] H locs := hw
                refine lv_iload_n hx hb dX6_closeOn_138 rfl (lv_at hl 2 rfl) ?_
                have hQ : clQ (cl1 ρ) = mRaise (cl1 ρ) 2 := by unfold clQ; rw [show clP (cl1 ρ) 0 = cl1 ρ from if_neg (Nat.not_lt.mpr c_9), show clP (cl1 ρ) 1 = cl1 ρ from if_neg (Nat.not_lt.mpr c_15), show clP (cl1 ρ) 2 = mRaise (cl1 ρ) 2 from if_pos c_21]
                have hM : mClose ρ = setN (setN (mRaise (cl1 ρ) 2) 1 0) 0 (ρ 0 + 1) := by unfold mClose; rw [hQ, if_neg (by omega)]
                rw [show 1 + (mRaise (cl1 ρ) 2) 0 = ρ 0 + 1 by omega, ← hM] at hw
                exact hret _ _ _ (nI (scarce (cl1 ρ))) _ _ dX6_closeOn_139 hw rfl rfl ⟨rfl, rfl⟩
              refine lv_iconst (v := (nI 1)) hx hb dX6_closeOn_125 (by decide) ?_
              refine lv_goto (tgt := 130) hx hb dX6_closeOn_126 (by decide) ?_
              refine x_iast M hK hw 0 0 rfl rfl (by decide) (by decide) dX6_closeOn_130 (fun H locs hw => ?_)
              rw [upd_row] at hw
              have hw : xW G A s.heap [[(a, .inl (Y 0, 140, .inl (rowF (setN (mRaise (cl1 ρ) 2) 1 1))))]] H locs := hw
              refine lv_aload_n hx hb dX6_closeOn_131 rfl (lv_at hl 3 rfl) ?_
              refine lv_iconst (v := (nI 0)) hx hb dX6_closeOn_132 (by decide) ?_
              refine lv_dup2_11 hx hb dX6_closeOn_133 rfl rfl ?_
              refine x_iald M hK hw 0 0 rfl rfl (by decide) (by decide) dX6_closeOn_134 ?_
              refine x_topN (n := (mRaise (cl1 ρ) 2) 0) (congrArg nI ((setN_n (by omega)).trans rfl)) ?_
              refine lv_iconst (v := (nI 1)) hx hb dX6_closeOn_135 (by decide) ?_
              refine x_iadd M (n := 1 + (mRaise (cl1 ρ) 2) 0) dX6_closeOn_136 (by omega) ?_
              refine x_iast M hK hw 0 0 rfl rfl (by decide) (by decide) dX6_closeOn_137 (fun H locs hw => ?_)
              rw [upd_row] at hw
              have hw : xW G A s.heap [[(a, .inl (Y 0, 140, .inl (rowF (setN (setN (mRaise (cl1 ρ) 2) 1 1) 0 (1 + (mRaise (cl1 ρ) 2) 0)))))]] H locs := hw
              refine lv_iload_n hx hb dX6_closeOn_138 rfl (lv_at hl 2 rfl) ?_
              have hQ : clQ (cl1 ρ) = mRaise (cl1 ρ) 2 := by unfold clQ; rw [show clP (cl1 ρ) 0 = cl1 ρ from if_neg (Nat.not_lt.mpr c_9), show clP (cl1 ρ) 1 = cl1 ρ from if_neg (Nat.not_lt.mpr c_15), show clP (cl1 ρ) 2 = mRaise (cl1 ρ) 2 from if_pos c_21]
              have hM : mClose ρ = setN (setN (mRaise (cl1 ρ) 2) 1 1) 0 (ρ 0 + 1) := by unfold mClose; rw [hQ, if_pos (by omega)]
              rw [show 1 + (mRaise (cl1 ρ) 2) 0 = ρ 0 + 1 by omega, ← hM] at hw
              exact hret _ _ _ (nI (scarce (cl1 ρ))) _ _ dX6_closeOn_139 hw rfl rfl ⟨rfl, rfl⟩
            refine lv_iconst (v := (nI 1)) hx hb dX6_closeOn_103 (by decide) ?_
            refine lv_goto (tgt := 108) hx hb dX6_closeOn_104 (by decide) ?_
            refine x_iadd M (n := 1 + (cl1 ρ) 13) dX6_closeOn_108 (by omega) ?_
            refine x_cSI (As := [.int (nI 99999), .int (nI (1 + (cl1 ρ) 13))]) (k_X6_less l G Y 99999 (1 + (cl1 ρ) 13) (by omega) (by omega)) cw_X6_61 [] M hK hZ hw hl.1 rfl (by decide) ⟨by decide, by decide⟩ ⟨Nat.zero_le _, Nat.zero_le _⟩ rfl rfl (Nat.le_of_ble_eq_true rfl) dX6_closeOn_109 (fun r sg h_34 H locs hw => ?_)
            obtain ⟨rfl, rfl⟩ := h_34
            have hw : xW G A s.heap [[(a, .inl (Y 0, 140, .inl (rowF (cl1 ρ))))]] H locs := hw
            refine x_iast M hK hw 0 0 rfl rfl (by decide) (by decide) dX6_closeOn_112 (fun H locs hw => ?_)
            rw [upd_row] at hw
            have hw : xW G A s.heap [[(a, .inl (Y 0, 140, .inl (rowF (setN (cl1 ρ) 13 (min 99999 (1 + (cl1 ρ) 13))))))]] H locs := hw
            have hw := row_fold (i := 0) (f' := rowF (mRaise (cl1 ρ) 2)) hw rfl (fun q hq => congrArg nI (raise_row (k := 2) rfl (by omega)))
            have hw : xW G A s.heap [[(a, .inl (Y 0, 140, .inl (rowF (mRaise (cl1 ρ) 2))))]] H locs := hw
            have hI35 := Inv_raise hI1 (k := 2) (by decide)
            have := hI35.stepp
            have := hI35.n6
            have : (mRaise (cl1 ρ) 2) 5 = (cl1 ρ) 5 := raise_o (by decide)
            have : askedOf (mRaise (cl1 ρ) 2) 0 = askedOf (cl1 ρ) 0 := asked_raise (by decide)
            have : (mRaise (cl1 ρ) 2) 6 = (cl1 ρ) 6 := raise_o (by decide)
            have : askedOf (mRaise (cl1 ρ) 2) 1 = askedOf (cl1 ρ) 1 := asked_raise (by decide)
            have : askedOf (mRaise (cl1 ρ) 2) 2 = askedOf (cl1 ρ) 2 := asked_raise (by decide)
            have : (mRaise (cl1 ρ) 2) 0 = (cl1 ρ) 0 := raise_o (by decide)
            have : (mRaise (cl1 ρ) 2) 4 = (cl1 ρ) 4 := raise_o (by decide)
            have : (mRaise (cl1 ρ) 2) 5 = (cl1 ρ) 5 := raise_o (by decide)
            refine lv_iinc (v := (nI 3)) (lv' := [(2, .int (nI 3)), (3, .int (nI ((((cl1 ρ) 13) * ((cl1 ρ) 3)) / 100))), (1, .int (nI (scarce (cl1 ρ)))), (0, .ref a)]) hx hb dX6_closeOn_113 hl (k := 1) rfl (by decide) (by decide) rfl (fun ls hl => ?_)
            refine lv_goto (tgt := 53) hx hb dX6_closeOn_116 (by decide) ?_
            refine lv_iload_n hx hb dX6_closeOn_53 rfl (lv_at hl 0 rfl) ?_
            refine lv_iconst (v := (nI 3)) hx hb dX6_closeOn_54 (by decide) ?_
            refine x_cge M (tgt := 119) (by decide) (by decide) dX6_closeOn_55 (by decide) (fun c_36 => ?_) (fun c_36 => absurd c_36 (by decide))
            refine lv_aload_n hx hb dX6_closeOn_119 rfl (lv_at hl 3 rfl) ?_
            refine lv_iconst (v := (nI 1)) hx hb dX6_closeOn_120 (by decide) ?_
            refine lv_iload_n hx hb dX6_closeOn_121 rfl (lv_at hl 2 rfl) ?_
            refine x_zne M (tgt := 129) (by omega) dX6_closeOn_122 (by decide) (fun c_37 => ?_) (fun c_37 => ?_)
            · refine lv_iconst (v := (nI 0)) hx hb dX6_closeOn_129 (by decide) ?_
              refine x_iast M hK hw 0 0 rfl rfl (by decide) (by decide) dX6_closeOn_130 (fun H locs hw => ?_)
              rw [upd_row] at hw
              have hw : xW G A s.heap [[(a, .inl (Y 0, 140, .inl (rowF (setN (mRaise (cl1 ρ) 2) 1 0))))]] H locs := hw
              refine lv_aload_n hx hb dX6_closeOn_131 rfl (lv_at hl 3 rfl) ?_
              refine lv_iconst (v := (nI 0)) hx hb dX6_closeOn_132 (by decide) ?_
              refine lv_dup2_11 hx hb dX6_closeOn_133 rfl rfl ?_
              refine x_iald M hK hw 0 0 rfl rfl (by decide) (by decide) dX6_closeOn_134 ?_
              refine x_topN (n := (mRaise (cl1 ρ) 2) 0) (congrArg nI ((setN_n (by omega)).trans rfl)) ?_
              refine lv_iconst (v := (nI 1)) hx hb dX6_closeOn_135 (by decide) ?_
              refine x_iadd M (n := 1 + (mRaise (cl1 ρ) 2) 0) dX6_closeOn_136 (by omega) ?_
              refine x_iast M hK hw 0 0 rfl rfl (by decide) (by decide) dX6_closeOn_137 (fun H locs hw => ?_)
              rw [upd_row] at hw
              have hw : xW G A s.heap [[(a, .inl (Y 0, 140, .inl (rowF (setN (setN (mRaise (cl1 ρ) 2) 1 0) 0 (1 + (mRaise (cl1 ρ) 2) 0)))))]] H locs := hw
              refine lv_iload_n hx hb dX6_closeOn_138 rfl (lv_at hl 2 rfl) ?_
              have hQ : clQ (cl1 ρ) = mRaise (cl1 ρ) 2 := by unfold clQ; rw [show clP (cl1 ρ) 0 = cl1 ρ from if_neg (Nat.not_lt.mpr c_9), show clP (cl1 ρ) 1 = cl1 ρ from if_neg (Nat.not_lt.mpr c_15), show clP (cl1 ρ) 2 = mRaise (cl1 ρ) 2 from if_pos c_21]
              have hM : mClose ρ = setN (setN (mRaise (cl1 ρ) 2) 1 0) 0 (ρ 0 + 1) := by unfold mClose; rw [hQ, if_neg (by omega)]
              rw [show 1 + (mRaise (cl1 ρ) 2) 0 = ρ 0 + 1 by omega, ← hM] at hw
              exact hret _ _ _ (nI (scarce (cl1 ρ))) _ _ dX6_closeOn_139 hw rfl rfl ⟨rfl, rfl⟩
            refine lv_iconst (v := (nI 1)) hx hb dX6_closeOn_125 (by decide) ?_
            refine lv_goto (tgt := 130) hx hb dX6_closeOn_126 (by decide) ?_
            refine x_iast M hK hw 0 0 rfl rfl (by decide) (by decide) dX6_closeOn_130 (fun H locs hw => ?_)
            rw [upd_row] at hw
            have hw : xW G A s.heap [[(a, .inl (Y 0, 140, .inl (rowF (setN (mRaise (cl1 ρ) 2) 1 1))))]] H locs := hw
            refine lv_aload_n hx hb dX6_closeOn_131 rfl (lv_at hl 3 rfl) ?_
            refine lv_iconst (v := (nI 0)) hx hb dX6_closeOn_132 (by decide) ?_
            refine lv_dup2_11 hx hb dX6_closeOn_133 rfl rfl ?_
            refine x_iald M hK hw 0 0 rfl rfl (by decide) (by decide) dX6_closeOn_134 ?_
            refine x_topN (n := (mRaise (cl1 ρ) 2) 0) (congrArg nI ((setN_n (by omega)).trans rfl)) ?_
            refine lv_iconst (v := (nI 1)) hx hb dX6_closeOn_135 (by decide) ?_
            refine x_iadd M (n := 1 + (mRaise (cl1 ρ) 2) 0) dX6_closeOn_136 (by omega) ?_
            refine x_iast M hK hw 0 0 rfl rfl (by decide) (by decide) dX6_closeOn_137 (fun H locs hw => ?_)
            rw [upd_row] at hw
            have hw : xW G A s.heap [[(a, .inl (Y 0, 140, .inl (rowF (setN (setN (mRaise (cl1 ρ) 2) 1 1) 0 (1 + (mRaise (cl1 ρ) 2) 0)))))]] H locs := hw
            refine lv_iload_n hx hb dX6_closeOn_138 rfl (lv_at hl 2 rfl) ?_
            have hQ : clQ (cl1 ρ) = mRaise (cl1 ρ) 2 := by unfold clQ; rw [show clP (cl1 ρ) 0 = cl1 ρ from if_neg (Nat.not_lt.mpr c_9), show clP (cl1 ρ) 1 = cl1 ρ from if_neg (Nat.not_lt.mpr c_15), show clP (cl1 ρ) 2 = mRaise (cl1 ρ) 2 from if_pos c_21]
            have hM : mClose ρ = setN (setN (mRaise (cl1 ρ) 2) 1 1) 0 (ρ 0 + 1) := by unfold mClose; rw [hQ, if_pos (by omega)]
            rw [show 1 + (mRaise (cl1 ρ) 2) 0 = ρ 0 + 1 by omega, ← hM] at hw
            exact hret _ _ _ (nI (scarce (cl1 ρ))) _ _ dX6_closeOn_139 hw rfl rfl ⟨rfl, rfl⟩
          refine lv_aload_n hx hb dX6_closeOn_71 rfl (lv_at hl 2 rfl) ?_
          refine lv_bipush (v := (nI 11)) hx hb dX6_closeOn_72 (by decide) ?_
          refine lv_iload_n hx hb dX6_closeOn_74 rfl (lv_at hl 0 rfl) ?_
          refine x_iadd M (n := 12) dX6_closeOn_75 rfl ?_
          refine x_iald M hK hw 0 0 rfl rfl (by decide) (by decide) dX6_closeOn_76 ?_
          refine x_topN (n := (cl1 ρ) 12) rfl ?_
          have q_38 : 1 ≤ (cl1 ρ) 12 := (hI1.pri (q := 12) (k := 1) (by decide) rfl).1
          have q_39 : (cl1 ρ) 12 ≤ 99999 := (hI1.pri (q := 12) (k := 1) (by decide) rfl).2
          refine lv_aload_n hx hb dX6_closeOn_77 rfl (lv_at hl 2 rfl) ?_
          refine lv_iconst (v := (nI 3)) hx hb dX6_closeOn_78 (by decide) ?_
          refine x_iald M hK hw 0 0 rfl rfl (by decide) (by decide) dX6_closeOn_79 ?_
          refine x_topN (n := (cl1 ρ) 3) rfl ?_
          have q_40 : 1 ≤ (cl1 ρ) 3 := (hI1.stepp).1
          have q_41 : (cl1 ρ) 3 ≤ 50 := (hI1.stepp).2
          refine x_imul M (n := ((cl1 ρ) 12) * ((cl1 ρ) 3)) dX6_closeOn_80 rfl ?_
          have q_42 : ((cl1 ρ) 12) * ((cl1 ρ) 3) ≤ 4999950 := Nat.le_trans (Nat.mul_le_mul (show (cl1 ρ) 12 ≤ 99999 by omega) (show (cl1 ρ) 3 ≤ 50 by omega)) (by decide)
          refine lv_bipush (v := (nI 100)) hx hb dX6_closeOn_81 (by decide) ?_
          refine x_idiv M (n := (((cl1 ρ) 12) * ((cl1 ρ) 3)) / 100) dX6_closeOn_83 (by omega) (by omega) (by decide) rfl ?_
          refine lv_istore_n (lv' := [(3, .int (nI ((((cl1 ρ) 12) * ((cl1 ρ) 3)) / 100))), (2, .int (nI 1)), (1, .int (nI (scarce (cl1 ρ)))), (0, .ref a)]) hx hb dX6_closeOn_84 rfl hl (by decide) rfl (fun ls hl => ?_)
          refine lv_aload_n hx hb dX6_closeOn_85 rfl (lv_at hl 3 rfl) ?_
          refine lv_bipush (v := (nI 11)) hx hb dX6_closeOn_86 (by decide) ?_
          refine lv_iload_n hx hb dX6_closeOn_88 rfl (lv_at hl 1 rfl) ?_
          refine x_iadd M (n := 12) dX6_closeOn_89 rfl ?_
          refine lv_ldc (v := (nI 99999)) hx hb M.2.2.2.1 (M.2.2.2.2 _ mw_1137) dX6_closeOn_90 ?_
          refine lv_aload_n hx hb dX6_closeOn_92 rfl (lv_at hl 3 rfl) ?_
          refine lv_bipush (v := (nI 11)) hx hb dX6_closeOn_93 (by decide) ?_
          refine lv_iload_n hx hb dX6_closeOn_95 rfl (lv_at hl 1 rfl) ?_
          refine x_iadd M (n := 12) dX6_closeOn_96 rfl ?_
          refine x_iald M hK hw 0 0 rfl rfl (by decide) (by decide) dX6_closeOn_97 ?_
          refine x_topN (n := (cl1 ρ) 12) rfl ?_
          refine lv_iload_n hx hb dX6_closeOn_98 rfl (lv_at hl 0 rfl) ?_
          refine lv_iconst (v := (nI 1)) hx hb dX6_closeOn_99 (by decide) ?_
          refine x_cge M (tgt := 107) (by omega) (by decide) dX6_closeOn_100 (by decide) (fun c_43 => ?_) (fun c_43 => ?_)
          · refine lv_iload_n hx hb dX6_closeOn_107 rfl (lv_at hl 0 rfl) ?_
            refine x_iadd M (n := (cl1 ρ) 12 + ((((cl1 ρ) 12) * ((cl1 ρ) 3)) / 100)) dX6_closeOn_108 rfl ?_
            refine x_cSI (As := [.int (nI 99999), .int (nI ((cl1 ρ) 12 + ((((cl1 ρ) 12) * ((cl1 ρ) 3)) / 100)))]) (k_X6_less l G Y 99999 ((cl1 ρ) 12 + ((((cl1 ρ) 12) * ((cl1 ρ) 3)) / 100)) (by omega) (by omega)) cw_X6_61 [] M hK hZ hw hl.1 rfl (by decide) ⟨by decide, by decide⟩ ⟨Nat.zero_le _, Nat.zero_le _⟩ rfl rfl (Nat.le_of_ble_eq_true rfl) dX6_closeOn_109 (fun r sg h_44 H locs hw => ?_)
            obtain ⟨rfl, rfl⟩ := h_44
            have hw : xW G A s.heap [[(a, .inl (Y 0, 140, .inl (rowF (cl1 ρ))))]] H locs := hw
            refine x_iast M hK hw 0 0 rfl rfl (by decide) (by decide) dX6_closeOn_112 (fun H locs hw => ?_)
            rw [upd_row] at hw
            have hw : xW G A s.heap [[(a, .inl (Y 0, 140, .inl (rowF (setN (cl1 ρ) 12 (min 99999 ((cl1 ρ) 12 + ((((cl1 ρ) 12) * ((cl1 ρ) 3)) / 100)))))))]] H locs := hw
            have hw := row_fold (i := 0) (f' := rowF (mRaise (cl1 ρ) 1)) hw rfl (fun q hq => congrArg nI (raise_row (k := 1) rfl (by omega)))
            have hw : xW G A s.heap [[(a, .inl (Y 0, 140, .inl (rowF (mRaise (cl1 ρ) 1))))]] H locs := hw
            have hI45 := Inv_raise hI1 (k := 1) (by decide)
            have := hI45.stepp
            have := hI45.n6
            have : (mRaise (cl1 ρ) 1) 5 = (cl1 ρ) 5 := raise_o (by decide)
            have : askedOf (mRaise (cl1 ρ) 1) 0 = askedOf (cl1 ρ) 0 := asked_raise (by decide)
            have : askedOf (mRaise (cl1 ρ) 1) 1 = askedOf (cl1 ρ) 1 := asked_raise (by decide)
            have : (mRaise (cl1 ρ) 1) 7 = (cl1 ρ) 7 := raise_o (by decide)
            have : askedOf (mRaise (cl1 ρ) 1) 2 = askedOf (cl1 ρ) 2 := asked_raise (by decide)
            have : (mRaise (cl1 ρ) 1) 0 = (cl1 ρ) 0 := raise_o (by decide)
            have : (mRaise (cl1 ρ) 1) 4 = (cl1 ρ) 4 := raise_o (by decide)
            have : (mRaise (cl1 ρ) 1) 5 = (cl1 ρ) 5 := raise_o (by decide)
            refine lv_iinc (v := (nI 2)) (lv' := [(2, .int (nI 2)), (3, .int (nI ((((cl1 ρ) 12) * ((cl1 ρ) 3)) / 100))), (1, .int (nI (scarce (cl1 ρ)))), (0, .ref a)]) hx hb dX6_closeOn_113 hl (k := 1) rfl (by decide) (by decide) rfl (fun ls hl => ?_)
            refine lv_goto (tgt := 53) hx hb dX6_closeOn_116 (by decide) ?_
            refine lv_iload_n hx hb dX6_closeOn_53 rfl (lv_at hl 0 rfl) ?_
            refine lv_iconst (v := (nI 3)) hx hb dX6_closeOn_54 (by decide) ?_
            refine x_cge M (tgt := 119) (by decide) (by decide) dX6_closeOn_55 (by decide) (fun c_46 => absurd c_46 (by decide)) (fun c_46 => ?_)
            refine lv_aload_n hx hb dX6_closeOn_58 rfl (lv_at hl 3 rfl) ?_
            refine lv_iload_n hx hb dX6_closeOn_59 rfl (lv_at hl 0 rfl) ?_
            refine x_cSI (As := [.ref a, .int (nI 2)]) (k_X6_asked l G Y a 2 (mRaise (cl1 ρ) 1) (hI45) (by omega)) cw_X6_53 [0] M hK hZ hw hl.1 rfl (by decide) ⟨by decide, by decide⟩ ⟨Nat.zero_le _, Nat.zero_le _⟩ rfl rfl (Nat.le_of_ble_eq_true rfl) dX6_closeOn_60 (fun r sg h_47 H locs hw => ?_)
            obtain ⟨rfl, rfl⟩ := h_47
            have hw : xW G A s.heap [[(a, .inl (Y 0, 140, .inl (rowF (mRaise (cl1 ρ) 1))))]] H locs := hw
            have q_48 : askedOf (mRaise (cl1 ρ) 1) 2 ≤ 54 := askedOf_le hI45 (by omega)
            refine lv_aload_n hx hb dX6_closeOn_63 rfl (lv_at hl 3 rfl) ?_
            refine lv_iconst (v := (nI 5)) hx hb dX6_closeOn_64 (by decide) ?_
            refine lv_iload_n hx hb dX6_closeOn_65 rfl (lv_at hl 0 rfl) ?_
            refine x_iadd M (n := 7) dX6_closeOn_66 rfl ?_
            refine x_iald M hK hw 0 0 rfl rfl (by decide) (by decide) dX6_closeOn_67 ?_
            refine x_topN (n := (mRaise (cl1 ρ) 1) 7) rfl ?_
            have q_49 : 1 ≤ (mRaise (cl1 ρ) 1) 7 := (hI45.sup (q := 7) (k := 2) (by decide) rfl).1
            have q_50 : (mRaise (cl1 ρ) 1) 7 ≤ 9 := (hI45.sup (q := 7) (k := 2) (by decide) rfl).2
            refine x_cle M (tgt := 113) (by omega) (by omega) dX6_closeOn_68 (by decide) (fun c_51 => ?_) (fun c_51 => ?_)
            · refine lv_iinc (v := (nI 3)) (lv' := [(2, .int (nI 3)), (3, .int (nI ((((cl1 ρ) 12) * ((cl1 ρ) 3)) / 100))), (1, .int (nI (scarce (cl1 ρ)))), (0, .ref a)]) hx hb dX6_closeOn_113 hl (k := 0) rfl (by decide) (by decide) rfl (fun ls hl => ?_)
              refine lv_goto (tgt := 53) hx hb dX6_closeOn_116 (by decide) ?_
              refine lv_iload_n hx hb dX6_closeOn_53 rfl (lv_at hl 0 rfl) ?_
              refine lv_iconst (v := (nI 3)) hx hb dX6_closeOn_54 (by decide) ?_
              refine x_cge M (tgt := 119) (by decide) (by decide) dX6_closeOn_55 (by decide) (fun c_52 => ?_) (fun c_52 => absurd c_52 (by decide))
              refine lv_aload_n hx hb dX6_closeOn_119 rfl (lv_at hl 3 rfl) ?_
              refine lv_iconst (v := (nI 1)) hx hb dX6_closeOn_120 (by decide) ?_
              refine lv_iload_n hx hb dX6_closeOn_121 rfl (lv_at hl 2 rfl) ?_
              refine x_zne M (tgt := 129) (by omega) dX6_closeOn_122 (by decide) (fun c_53 => ?_) (fun c_53 => ?_)
              · refine lv_iconst (v := (nI 0)) hx hb dX6_closeOn_129 (by decide) ?_
                refine x_iast M hK hw 0 0 rfl rfl (by decide) (by decide) dX6_closeOn_130 (fun H locs hw => ?_)
                rw [upd_row] at hw
                have hw : xW G A s.heap [[(a, .inl (Y 0, 140, .inl (rowF (setN (mRaise (cl1 ρ) 1) 1 0))))]] H locs := hw
                refine lv_aload_n hx hb dX6_closeOn_131 rfl (lv_at hl 3 rfl) ?_
                refine lv_iconst (v := (nI 0)) hx hb dX6_closeOn_132 (by decide) ?_
                refine lv_dup2_11 hx hb dX6_closeOn_133 rfl rfl ?_
                refine x_iald M hK hw 0 0 rfl rfl (by decide) (by decide) dX6_closeOn_134 ?_
                refine x_topN (n := (mRaise (cl1 ρ) 1) 0) (congrArg nI ((setN_n (by omega)).trans rfl)) ?_
                refine lv_iconst (v := (nI 1)) hx hb dX6_closeOn_135 (by decide) ?_
                refine x_iadd M (n := 1 + (mRaise (cl1 ρ) 1) 0) dX6_closeOn_136 (by omega) ?_
                refine x_iast M hK hw 0 0 rfl rfl (by decide) (by decide) dX6_closeOn_137 (fun H locs hw => ?_)
                rw [upd_row] at hw
                have hw : xW G A s.heap [[(a, .inl (Y 0, 140, .inl (rowF (setN (setN (mRaise (cl1 ρ) 1) 1 0) 0 (1 + (mRaise (cl1 ρ) 1) 0)))))]] H locs := hw
                refine lv_iload_n hx hb dX6_closeOn_138 rfl (lv_at hl 2 rfl) ?_
                have hQ : clQ (cl1 ρ) = mRaise (cl1 ρ) 1 := by unfold clQ; rw [show clP (cl1 ρ) 0 = cl1 ρ from if_neg (Nat.not_lt.mpr c_9), show clP (cl1 ρ) 1 = mRaise (cl1 ρ) 1 from if_pos c_15, show clP (mRaise (cl1 ρ) 1) 2 = mRaise (cl1 ρ) 1 from if_neg (Nat.not_lt.mpr c_51)]
                have hM : mClose ρ = setN (setN (mRaise (cl1 ρ) 1) 1 0) 0 (ρ 0 + 1) := by unfold mClose; rw [hQ, if_neg (by omega)]
                rw [show 1 + (mRaise (cl1 ρ) 1) 0 = ρ 0 + 1 by omega, ← hM] at hw
                exact hret _ _ _ (nI (scarce (cl1 ρ))) _ _ dX6_closeOn_139 hw rfl rfl ⟨rfl, rfl⟩
              refine lv_iconst (v := (nI 1)) hx hb dX6_closeOn_125 (by decide) ?_
              refine lv_goto (tgt := 130) hx hb dX6_closeOn_126 (by decide) ?_
              refine x_iast M hK hw 0 0 rfl rfl (by decide) (by decide) dX6_closeOn_130 (fun H locs hw => ?_)
              rw [upd_row] at hw
              have hw : xW G A s.heap [[(a, .inl (Y 0, 140, .inl (rowF (setN (mRaise (cl1 ρ) 1) 1 1))))]] H locs := hw
              refine lv_aload_n hx hb dX6_closeOn_131 rfl (lv_at hl 3 rfl) ?_
              refine lv_iconst (v := (nI 0)) hx hb dX6_closeOn_132 (by decide) ?_
              refine lv_dup2_11 hx hb dX6_closeOn_133 rfl rfl ?_
              refine x_iald M hK hw 0 0 rfl rfl (by decide) (by decide) dX6_closeOn_134 ?_
              refine x_topN (n := (mRaise (cl1 ρ) 1) 0) (congrArg nI ((setN_n (by omega)).trans rfl)) ?_
              refine lv_iconst (v := (nI 1)) hx hb dX6_closeOn_135 (by decide) ?_
              refine x_iadd M (n := 1 + (mRaise (cl1 ρ) 1) 0) dX6_closeOn_136 (by omega) ?_
              refine x_iast M hK hw 0 0 rfl rfl (by decide) (by decide) dX6_closeOn_137 (fun H locs hw => ?_)
              rw [upd_row] at hw
              have hw : xW G A s.heap [[(a, .inl (Y 0, 140, .inl (rowF (setN (setN (mRaise (cl1 ρ) 1) 1 1) 0 (1 + (mRaise (cl1 ρ) 1) 0)))))]] H locs := hw
              refine lv_iload_n hx hb dX6_closeOn_138 rfl (lv_at hl 2 rfl) ?_
              have hQ : clQ (cl1 ρ) = mRaise (cl1 ρ) 1 := by unfold clQ; rw [show clP (cl1 ρ) 0 = cl1 ρ from if_neg (Nat.not_lt.mpr c_9), show clP (cl1 ρ) 1 = mRaise (cl1 ρ) 1 from if_pos c_15, show clP (mRaise (cl1 ρ) 1) 2 = mRaise (cl1 ρ) 1 from if_neg (Nat.not_lt.mpr c_51)]
              have hM : mClose ρ = setN (setN (mRaise (cl1 ρ) 1) 1 1) 0 (ρ 0 + 1) := by unfold mClose; rw [hQ, if_pos (by omega)]
              rw [show 1 + (mRaise (cl1 ρ) 1) 0 = ρ 0 + 1 by omega, ← hM] at hw
              exact hret _ _ _ (nI (scarce (cl1 ρ))) _ _ dX6_closeOn_139 hw rfl rfl ⟨rfl, rfl⟩
            refine lv_aload_n hx hb dX6_closeOn_71 rfl (lv_at hl 3 rfl) ?_
            refine lv_bipush (v := (nI 11)) hx hb dX6_closeOn_72 (by decide) ?_
            refine lv_iload_n hx hb dX6_closeOn_74 rfl (lv_at hl 0 rfl) ?_
            refine x_iadd M (n := 13) dX6_closeOn_75 rfl ?_
            refine x_iald M hK hw 0 0 rfl rfl (by decide) (by decide) dX6_closeOn_76 ?_
            refine x_topN (n := (mRaise (cl1 ρ) 1) 13) rfl ?_
            have q_54 : 1 ≤ (mRaise (cl1 ρ) 1) 13 := (hI45.pri (q := 13) (k := 2) (by decide) rfl).1
            have q_55 : (mRaise (cl1 ρ) 1) 13 ≤ 99999 := (hI45.pri (q := 13) (k := 2) (by decide) rfl).2
            refine lv_aload_n hx hb dX6_closeOn_77 rfl (lv_at hl 3 rfl) ?_
            refine lv_iconst (v := (nI 3)) hx hb dX6_closeOn_78 (by decide) ?_
            refine x_iald M hK hw 0 0 rfl rfl (by decide) (by decide) dX6_closeOn_79 ?_
            refine x_topN (n := (mRaise (cl1 ρ) 1) 3) rfl ?_
            have q_56 : 1 ≤ (mRaise (cl1 ρ) 1) 3 := (hI45.stepp).1
            have q_57 : (mRaise (cl1 ρ) 1) 3 ≤ 50 := (hI45.stepp).2
            refine x_imul M (n := ((mRaise (cl1 ρ) 1) 13) * ((mRaise (cl1 ρ) 1) 3)) dX6_closeOn_80 rfl ?_
            have q_58 : ((mRaise (cl1 ρ) 1) 13) * ((mRaise (cl1 ρ) 1) 3) ≤ 4999950 := Nat.le_trans (Nat.mul_le_mul (show (mRaise (cl1 ρ) 1) 13 ≤ 99999 by omega) (show (mRaise (cl1 ρ) 1) 3 ≤ 50 by omega)) (by decide)
            refine lv_bipush (v := (nI 100)) hx hb dX6_closeOn_81 (by decide) ?_
            refine x_idiv M (n := (((mRaise (cl1 ρ) 1) 13) * ((mRaise (cl1 ρ) 1) 3)) / 100) dX6_closeOn_83 (by omega) (by omega) (by decide) rfl ?_
            refine lv_istore_n (lv' := [(3, .int (nI ((((mRaise (cl1 ρ) 1) 13) * ((mRaise (cl1 ρ) 1) 3)) / 100))), (2, .int (nI 2)), (1, .int (nI (scarce (cl1 ρ)))), (0, .ref a)]) hx hb dX6_closeOn_84 rfl hl (by decide) rfl (fun ls hl => ?_)
            refine lv_aload_n hx hb dX6_closeOn_85 rfl (lv_at hl 3 rfl) ?_
            refine lv_bipush (v := (nI 11)) hx hb dX6_closeOn_86 (by decide) ?_
            refine lv_iload_n hx hb dX6_closeOn_88 rfl (lv_at hl 1 rfl) ?_
            refine x_iadd M (n := 13) dX6_closeOn_89 rfl ?_
            refine lv_ldc (v := (nI 99999)) hx hb M.2.2.2.1 (M.2.2.2.2 _ mw_1137) dX6_closeOn_90 ?_
            refine lv_aload_n hx hb dX6_closeOn_92 rfl (lv_at hl 3 rfl) ?_
            refine lv_bipush (v := (nI 11)) hx hb dX6_closeOn_93 (by decide) ?_
            refine lv_iload_n hx hb dX6_closeOn_95 rfl (lv_at hl 1 rfl) ?_
            refine x_iadd M (n := 13) dX6_closeOn_96 rfl ?_
            refine x_iald M hK hw 0 0 rfl rfl (by decide) (by decide) dX6_closeOn_97 ?_
            refine x_topN (n := (mRaise (cl1 ρ) 1) 13) rfl ?_
            refine lv_iload_n hx hb dX6_closeOn_98 rfl (lv_at hl 0 rfl) ?_
            refine lv_iconst (v := (nI 1)) hx hb dX6_closeOn_99 (by decide) ?_
            refine x_cge M (tgt := 107) (by omega) (by decide) dX6_closeOn_100 (by decide) (fun c_59 => ?_) (fun c_59 => ?_)
            · refine lv_iload_n hx hb dX6_closeOn_107 rfl (lv_at hl 0 rfl) ?_
              refine x_iadd M (n := (mRaise (cl1 ρ) 1) 13 + ((((mRaise (cl1 ρ) 1) 13) * ((mRaise (cl1 ρ) 1) 3)) / 100)) dX6_closeOn_108 rfl ?_
              refine x_cSI (As := [.int (nI 99999), .int (nI ((mRaise (cl1 ρ) 1) 13 + ((((mRaise (cl1 ρ) 1) 13) * ((mRaise (cl1 ρ) 1) 3)) / 100)))]) (k_X6_less l G Y 99999 ((mRaise (cl1 ρ) 1) 13 + ((((mRaise (cl1 ρ) 1) 13) * ((mRaise (cl1 ρ) 1) 3)) / 100)) (by omega) (by omega)) cw_X6_61 [] M hK hZ hw hl.1 rfl (by decide) ⟨by decide, by decide⟩ ⟨Nat.zero_le _, Nat.zero_le _⟩ rfl rfl (Nat.le_of_ble_eq_true rfl) dX6_closeOn_109 (fun r sg h_60 H locs hw => ?_)
              obtain ⟨rfl, rfl⟩ := h_60
              have hw : xW G A s.heap [[(a, .inl (Y 0, 140, .inl (rowF (mRaise (cl1 ρ) 1))))]] H locs := hw
              refine x_iast M hK hw 0 0 rfl rfl (by decide) (by decide) dX6_closeOn_112 (fun H locs hw => ?_)
              rw [upd_row] at hw
              have hw : xW G A s.heap [[(a, .inl (Y 0, 140, .inl (rowF (setN (mRaise (cl1 ρ) 1) 13 (min 99999 ((mRaise (cl1 ρ) 1) 13 + ((((mRaise (cl1 ρ) 1) 13) * ((mRaise (cl1 ρ) 1) 3)) / 100)))))))]] H locs := hw
              have hw := row_fold (i := 0) (f' := rowF (mRaise (mRaise (cl1 ρ) 1) 2)) hw rfl (fun q hq => congrArg nI (raise_row (k := 2) rfl (by omega)))
              have hw : xW G A s.heap [[(a, .inl (Y 0, 140, .inl (rowF (mRaise (mRaise (cl1 ρ) 1) 2))))]] H locs := hw
              have hI61 := Inv_raise hI45 (k := 2) (by decide)
              have := hI61.stepp
              have := hI61.n6
              have : (mRaise (mRaise (cl1 ρ) 1) 2) 5 = (mRaise (cl1 ρ) 1) 5 := raise_o (by decide)
              have : askedOf (mRaise (mRaise (cl1 ρ) 1) 2) 0 = askedOf (mRaise (cl1 ρ) 1) 0 := asked_raise (by decide)
              have : (mRaise (mRaise (cl1 ρ) 1) 2) 6 = (mRaise (cl1 ρ) 1) 6 := raise_o (by decide)
              have : askedOf (mRaise (mRaise (cl1 ρ) 1) 2) 1 = askedOf (mRaise (cl1 ρ) 1) 1 := asked_raise (by decide)
              have : askedOf (mRaise (mRaise (cl1 ρ) 1) 2) 2 = askedOf (mRaise (cl1 ρ) 1) 2 := asked_raise (by decide)
              have : (mRaise (mRaise (cl1 ρ) 1) 2) 0 = (mRaise (cl1 ρ) 1) 0 := raise_o (by decide)
              have : (mRaise (mRaise (cl1 ρ) 1) 2) 4 = (mRaise (cl1 ρ) 1) 4 := raise_o (by decide)
              have : (mRaise (mRaise (cl1 ρ) 1) 2) 5 = (mRaise (cl1 ρ) 1) 5 := raise_o (by decide)
              refine lv_iinc (v := (nI 3)) (lv' := [(2, .int (nI 3)), (3, .int (nI ((((mRaise (cl1 ρ) 1) 13) * ((mRaise (cl1 ρ) 1) 3)) / 100))), (1, .int (nI (scarce (cl1 ρ)))), (0, .ref a)]) hx hb dX6_closeOn_113 hl (k := 1) rfl (by decide) (by decide) rfl (fun ls hl => ?_)
              refine lv_goto (tgt := 53) hx hb dX6_closeOn_116 (by decide) ?_
              refine lv_iload_n hx hb dX6_closeOn_53 rfl (lv_at hl 0 rfl) ?_
              refine lv_iconst (v := (nI 3)) hx hb dX6_closeOn_54 (by decide) ?_
              refine x_cge M (tgt := 119) (by decide) (by decide) dX6_closeOn_55 (by decide) (fun c_62 => ?_) (fun c_62 => absurd c_62 (by decide))
              refine lv_aload_n hx hb dX6_closeOn_119 rfl (lv_at hl 3 rfl) ?_
              refine lv_iconst (v := (nI 1)) hx hb dX6_closeOn_120 (by decide) ?_
              refine lv_iload_n hx hb dX6_closeOn_121 rfl (lv_at hl 2 rfl) ?_
              refine x_zne M (tgt := 129) (by omega) dX6_closeOn_122 (by decide) (fun c_63 => ?_) (fun c_63 => ?_)
              · refine lv_iconst (v := (nI 0)) hx hb dX6_closeOn_129 (by decide) ?_
                refine x_iast M hK hw 0 0 rfl rfl (by decide) (by decide) dX6_closeOn_130 (fun H locs hw => ?_)
                rw [upd_row] at hw
                have hw : xW G A s.heap [[(a, .inl (Y 0, 140, .inl (rowF (setN (mRaise (mRaise (cl1 ρ) 1) 2) 1 0))))]] H locs := hw
                refine lv_aload_n hx hb dX6_closeOn_131 rfl (lv_at hl 3 rfl) ?_
                refine lv_iconst (v := (nI 0)) hx hb dX6_closeOn_132 (by decide) ?_
                refine lv_dup2_11 hx hb dX6_closeOn_133 rfl rfl ?_
                refine x_iald M hK hw 0 0 rfl rfl (by decide) (by decide) dX6_closeOn_134 ?_
                refine x_topN (n := (mRaise (mRaise (cl1 ρ) 1) 2) 0) (congrArg nI ((setN_n (by omega)).trans rfl)) ?_
                refine lv_iconst (v := (nI 1)) hx hb dX6_closeOn_135 (by decide) ?_
                refine x_iadd M (n := 1 + (mRaise (mRaise (cl1 ρ) 1) 2) 0) dX6_closeOn_136 (by omega) ?_
                refine x_iast M hK hw 0 0 rfl rfl (by decide) (by decide) dX6_closeOn_137 (fun H locs hw => ?_)
                rw [upd_row] at hw
                have hw : xW G A s.heap [[(a, .inl (Y 0, 140, .inl (rowF (setN (setN (mRaise (mRaise (cl1 ρ) 1) 2) 1 0) 0 (1 + (mRaise (mRaise (cl1 ρ) 1) 2) 0)))))]] H locs := hw
                refine lv_iload_n hx hb dX6_closeOn_138 rfl (lv_at hl 2 rfl) ?_
                have hQ : clQ (cl1 ρ) = mRaise (mRaise (cl1 ρ) 1) 2 := by unfold clQ; rw [show clP (cl1 ρ) 0 = cl1 ρ from if_neg (Nat.not_lt.mpr c_9), show clP (cl1 ρ) 1 = mRaise (cl1 ρ) 1 from if_pos c_15, show clP (mRaise (cl1 ρ) 1) 2 = mRaise (mRaise (cl1 ρ) 1) 2 from if_pos c_51]
                have hM : mClose ρ = setN (setN (mRaise (mRaise (cl1 ρ) 1) 2) 1 0) 0 (ρ 0 + 1) := by unfold mClose; rw [hQ, if_neg (by omega)]
                rw [show 1 + (mRaise (mRaise (cl1 ρ) 1) 2) 0 = ρ 0 + 1 by omega, ← hM] at hw
                exact hret _ _ _ (nI (scarce (cl1 ρ))) _ _ dX6_closeOn_139 hw rfl rfl ⟨rfl, rfl⟩
              refine lv_iconst (v := (nI 1)) hx hb dX6_closeOn_125 (by decide) ?_
              refine lv_goto (tgt := 130) hx hb dX6_closeOn_126 (by decide) ?_
              refine x_iast M hK hw 0 0 rfl rfl (by decide) (by decide) dX6_closeOn_130 (fun H locs hw => ?_)
              rw [upd_row] at hw
              have hw : xW G A s.heap [[(a, .inl (Y 0, 140, .inl (rowF (setN (mRaise (mRaise (cl1 ρ) 1) 2) 1 1))))]] H locs := hw
              refine lv_aload_n hx hb dX6_closeOn_131 rfl (lv_at hl 3 rfl) ?_
              refine lv_iconst (v := (nI 0)) hx hb dX6_closeOn_132 (by decide) ?_
              refine lv_dup2_11 hx hb dX6_closeOn_133 rfl rfl ?_
              refine x_iald M hK hw 0 0 rfl rfl (by decide) (by decide) dX6_closeOn_134 ?_
              refine x_topN (n := (mRaise (mRaise (cl1 ρ) 1) 2) 0) (congrArg nI ((setN_n (by omega)).trans rfl)) ?_
              refine lv_iconst (v := (nI 1)) hx hb dX6_closeOn_135 (by decide) ?_
              refine x_iadd M (n := 1 + (mRaise (mRaise (cl1 ρ) 1) 2) 0) dX6_closeOn_136 (by omega) ?_
              refine x_iast M hK hw 0 0 rfl rfl (by decide) (by decide) dX6_closeOn_137 (fun H locs hw => ?_)
              rw [upd_row] at hw
              have hw : xW G A s.heap [[(a, .inl (Y 0, 140, .inl (rowF (setN (setN (mRaise (mRaise (cl1 ρ) 1) 2) 1 1) 0 (1 + (mRaise (mRaise (cl1 ρ) 1) 2) 0)))))]] H locs := hw
              refine lv_iload_n hx hb dX6_closeOn_138 rfl (lv_at hl 2 rfl) ?_
              have hQ : clQ (cl1 ρ) = mRaise (mRaise (cl1 ρ) 1) 2 := by unfold clQ; rw [show clP (cl1 ρ) 0 = cl1 ρ from if_neg (Nat.not_lt.mpr c_9), show clP (cl1 ρ) 1 = mRaise (cl1 ρ) 1 from if_pos c_15, show clP (mRaise (cl1 ρ) 1) 2 = mRaise (mRaise (cl1 ρ) 1) 2 from if_pos c_51]
              have hM : mClose ρ = setN (setN (mRaise (mRaise (cl1 ρ) 1) 2) 1 1) 0 (ρ 0 + 1) := by unfold mClose; rw [hQ, if_pos (by omega)]
              rw [show 1 + (mRaise (mRaise (cl1 ρ) 1) 2) 0 = ρ 0 + 1 by omega, ← hM] at hw
              exact hret _ _ _ (nI (scarce (cl1 ρ))) _ _ dX6_closeOn_139 hw rfl rfl ⟨rfl, rfl⟩
            refine lv_iconst (v := (nI 1)) hx hb dX6_closeOn_103 (by decide) ?_
            refine lv_goto (tgt := 108) hx hb dX6_closeOn_104 (by decide) ?_
            refine x_iadd M (n := 1 + (mRaise (cl1 ρ) 1) 13) dX6_closeOn_108 (by omega) ?_
            refine x_cSI (As := [.int (nI 99999), .int (nI (1 + (mRaise (cl1 ρ) 1) 13))]) (k_X6_less l G Y 99999 (1 + (mRaise (cl1 ρ) 1) 13) (by omega) (by omega)) cw_X6_61 [] M hK hZ hw hl.1 rfl (by decide) ⟨by decide, by decide⟩ ⟨Nat.zero_le _, Nat.zero_le _⟩ rfl rfl (Nat.le_of_ble_eq_true rfl) dX6_closeOn_109 (fun r sg h_64 H locs hw => ?_)
            obtain ⟨rfl, rfl⟩ := h_64
            have hw : xW G A s.heap [[(a, .inl (Y 0, 140, .inl (rowF (mRaise (cl1 ρ) 1))))]] H locs := hw
            refine x_iast M hK hw 0 0 rfl rfl (by decide) (by decide) dX6_closeOn_112 (fun H locs hw => ?_)
            rw [upd_row] at hw
            have hw : xW G A s.heap [[(a, .inl (Y 0, 140, .inl (rowF (setN (mRaise (cl1 ρ) 1) 13 (min 99999 (1 + (mRaise (cl1 ρ) 1) 13))))))]] H locs := hw
            have hw := row_fold (i := 0) (f' := rowF (mRaise (mRaise (cl1 ρ) 1) 2)) hw rfl (fun q hq => congrArg nI (raise_row (k := 2) rfl (by omega)))
            have hw : xW G A s.heap [[(a, .inl (Y 0, 140, .inl (rowF (mRaise (mRaise (cl1 ρ) 1) 2))))]] H locs := hw
            have hI65 := Inv_raise hI45 (k := 2) (by decide)
            have := hI65.stepp
            have := hI65.n6
            have : (mRaise (mRaise (cl1 ρ) 1) 2) 5 = (mRaise (cl1 ρ) 1) 5 := raise_o (by decide)
            have : askedOf (mRaise (mRaise (cl1 ρ) 1) 2) 0 = askedOf (mRaise (cl1 ρ) 1) 0 := asked_raise (by decide)
            have : (mRaise (mRaise (cl1 ρ) 1) 2) 6 = (mRaise (cl1 ρ) 1) 6 := raise_o (by decide)
            have : askedOf (mRaise (mRaise (cl1 ρ) 1) 2) 1 = askedOf (mRaise (cl1 ρ) 1) 1 := asked_raise (by decide)
            have : askedOf (mRaise (mRaise (cl1 ρ) 1) 2) 2 = askedOf (mRaise (cl1 ρ) 1) 2 := asked_raise (by decide)
            have : (mRaise (mRaise (cl1 ρ) 1) 2) 0 = (mRaise (cl1 ρ) 1) 0 := raise_o (by decide)
            have : (mRaise (mRaise (cl1 ρ) 1) 2) 4 = (mRaise (cl1 ρ) 1) 4 := raise_o (by decide)
            have : (mRaise (mRaise (cl1 ρ) 1) 2) 5 = (mRaise (cl1 ρ) 1) 5 := raise_o (by decide)
            refine lv_iinc (v := (nI 3)) (lv' := [(2, .int (nI 3)), (3, .int (nI ((((mRaise (cl1 ρ) 1) 13) * ((mRaise (cl1 ρ) 1) 3)) / 100))), (1, .int (nI (scarce (cl1 ρ)))), (0, .ref a)]) hx hb dX6_closeOn_113 hl (k := 1) rfl (by decide) (by decide) rfl (fun ls hl => ?_)
            refine lv_goto (tgt := 53) hx hb dX6_closeOn_116 (by decide) ?_
            refine lv_iload_n hx hb dX6_closeOn_53 rfl (lv_at hl 0 rfl) ?_
            refine lv_iconst (v := (nI 3)) hx hb dX6_closeOn_54 (by decide) ?_
            refine x_cge M (tgt := 119) (by decide) (by decide) dX6_closeOn_55 (by decide) (fun c_66 => ?_) (fun c_66 => absurd c_66 (by decide))
            refine lv_aload_n hx hb dX6_closeOn_119 rfl (lv_at hl 3 rfl) ?_
            refine lv_iconst (v := (nI 1)) hx hb dX6_closeOn_120 (by decide) ?_
            refine lv_iload_n hx hb dX6_closeOn_121 rfl (lv_at hl 2 rfl) ?_
            refine x_zne M (tgt := 129) (by omega) dX6_closeOn_122 (by decide) (fun c_67 => ?_) (fun c_67 => ?_)
            · refine lv_iconst (v := (nI 0)) hx hb dX6_closeOn_129 (by decide) ?_
              refine x_iast M hK hw 0 0 rfl rfl (by decide) (by decide) dX6_closeOn_130 (fun H locs hw => ?_)
              rw [upd_row] at hw
              have hw : xW G A s.heap [[(a, .inl (Y 0, 140, .inl (rowF (setN (mRaise (mRaise (cl1 ρ) 1) 2) 1 0))))]] H locs := hw
              refine lv_aload_n hx hb dX6_closeOn_131 rfl (lv_at hl 3 rfl) ?_
              refine lv_iconst (v := (nI 0)) hx hb dX6_closeOn_132 (by decide) ?_
              refine lv_dup2_11 hx hb dX6_closeOn_133 rfl rfl ?_
              refine x_iald M hK hw 0 0 rfl rfl (by decide) (by decide) dX6_closeOn_134 ?_
              refine x_topN (n := (mRaise (mRaise (cl1 ρ) 1) 2) 0) (congrArg nI ((setN_n (by omega)).trans rfl)) ?_
              refine lv_iconst (v := (nI 1)) hx hb dX6_closeOn_135 (by decide) ?_
              refine x_iadd M (n := 1 + (mRaise (mRaise (cl1 ρ) 1) 2) 0) dX6_closeOn_136 (by omega) ?_
              refine x_iast M hK hw 0 0 rfl rfl (by decide) (by decide) dX6_closeOn_137 (fun H locs hw => ?_)
              rw [upd_row] at hw
              have hw : xW G A s.heap [[(a, .inl (Y 0, 140, .inl (rowF (setN (setN (mRaise (mRaise (cl1 ρ) 1) 2) 1 0) 0 (1 + (mRaise (mRaise (cl1 ρ) 1) 2) 0)))))]] H locs := hw
              refine lv_iload_n hx hb dX6_closeOn_138 rfl (lv_at hl 2 rfl) ?_
              have hQ : clQ (cl1 ρ) = mRaise (mRaise (cl1 ρ) 1) 2 := by unfold clQ; rw [show clP (cl1 ρ) 0 = cl1 ρ from if_neg (Nat.not_lt.mpr c_9), show clP (cl1 ρ) 1 = mRaise (cl1 ρ) 1 from if_pos c_15, show clP (mRaise (cl1 ρ) 1) 2 = mRaise (mRaise (cl1 ρ) 1) 2 from if_pos c_51]
              have hM : mClose ρ = setN (setN (mRaise (mRaise (cl1 ρ) 1) 2) 1 0) 0 (ρ 0 + 1) := by unfold mClose; rw [hQ, if_neg (by omega)]
              rw [show 1 + (mRaise (mRaise (cl1 ρ) 1) 2) 0 = ρ 0 + 1 by omega, ← hM] at hw
              exact hret _ _ _ (nI (scarce (cl1 ρ))) _ _ dX6_closeOn_139 hw rfl rfl ⟨rfl, rfl⟩
            refine lv_iconst (v := (nI 1)) hx hb dX6_closeOn_125 (by decide) ?_
            refine lv_goto (tgt := 130) hx hb dX6_closeOn_126 (by decide) ?_
            refine x_iast M hK hw 0 0 rfl rfl (by decide) (by decide) dX6_closeOn_130 (fun H locs hw => ?_)
            rw [upd_row] at hw
            have hw : xW G A s.heap [[(a, .inl (Y 0, 140, .inl (rowF (setN (mRaise (mRaise (cl1 ρ) 1) 2) 1 1))))]] H locs := hw
            refine lv_aload_n hx hb dX6_closeOn_131 rfl (lv_at hl 3 rfl) ?_
            refine lv_iconst (v := (nI 0)) hx hb dX6_closeOn_132 (by decide) ?_
            refine lv_dup2_11 hx hb dX6_closeOn_133 rfl rfl ?_
            refine x_iald M hK hw 0 0 rfl rfl (by decide) (by decide) dX6_closeOn_134 ?_
            refine x_topN (n := (mRaise (mRaise (cl1 ρ) 1) 2) 0) (congrArg nI ((setN_n (by omega)).trans rfl)) ?_
            refine lv_iconst (v := (nI 1)) hx hb dX6_closeOn_135 (by decide) ?_
            refine x_iadd M (n := 1 + (mRaise (mRaise (cl1 ρ) 1) 2) 0) dX6_closeOn_136 (by omega) ?_
            refine x_iast M hK hw 0 0 rfl rfl (by decide) (by decide) dX6_closeOn_137 (fun H locs hw => ?_)
            rw [upd_row] at hw
            have hw : xW G A s.heap [[(a, .inl (Y 0, 140, .inl (rowF (setN (setN (mRaise (mRaise (cl1 ρ) 1) 2) 1 1) 0 (1 + (mRaise (mRaise (cl1 ρ) 1) 2) 0)))))]] H locs := hw
            refine lv_iload_n hx hb dX6_closeOn_138 rfl (lv_at hl 2 rfl) ?_
            have hQ : clQ (cl1 ρ) = mRaise (mRaise (cl1 ρ) 1) 2 := by unfold clQ; rw [show clP (cl1 ρ) 0 = cl1 ρ from if_neg (Nat.not_lt.mpr c_9), show clP (cl1 ρ) 1 = mRaise (cl1 ρ) 1 from if_pos c_15, show clP (mRaise (cl1 ρ) 1) 2 = mRaise (mRaise (cl1 ρ) 1) 2 from if_pos c_51]
            have hM : mClose ρ = setN (setN (mRaise (mRaise (cl1 ρ) 1) 2) 1 1) 0 (ρ 0 + 1) := by unfold mClose; rw [hQ, if_pos (by omega)]
            rw [show 1 + (mRaise (mRaise (cl1 ρ) 1) 2) 0 = ρ 0 + 1 by omega, ← hM] at hw
            exact hret _ _ _ (nI (scarce (cl1 ρ))) _ _ dX6_closeOn_139 hw rfl rfl ⟨rfl, rfl⟩
          refine lv_iconst (v := (nI 1)) hx hb dX6_closeOn_103 (by decide) ?_
          refine lv_goto (tgt := 108) hx hb dX6_closeOn_104 (by decide) ?_
          refine x_iadd M (n := 1 + (cl1 ρ) 12) dX6_closeOn_108 (by omega) ?_
          refine x_cSI (As := [.int (nI 99999), .int (nI (1 + (cl1 ρ) 12))]) (k_X6_less l G Y 99999 (1 + (cl1 ρ) 12) (by omega) (by omega)) cw_X6_61 [] M hK hZ hw hl.1 rfl (by decide) ⟨by decide, by decide⟩ ⟨Nat.zero_le _, Nat.zero_le _⟩ rfl rfl (Nat.le_of_ble_eq_true rfl) dX6_closeOn_109 (fun r sg h_68 H locs hw => ?_)
          obtain ⟨rfl, rfl⟩ := h_68
          have hw : xW G A s.heap [[(a, .inl (Y 0, 140, .inl (rowF (cl1 ρ))))]] H locs := hw
          refine x_iast M hK hw 0 0 rfl rfl (by decide) (by decide) dX6_closeOn_112 (fun H locs hw => ?_)
          rw [upd_row] at hw
          have hw : xW G A s.heap [[(a, .inl (Y 0, 140, .inl (rowF (setN (cl1 ρ) 12 (min 99999 (1 + (cl1 ρ) 12))))))]] H locs := hw
          have hw := row_fold (i := 0) (f' := rowF (mRaise (cl1 ρ) 1)) hw rfl (fun q hq => congrArg nI (raise_row (k := 1) rfl (by omega)))
          have hw : xW G A s.heap [[(a, .inl (Y 0, 140, .inl (rowF (mRaise (cl1 ρ) 1))))]] H locs := hw
          have hI69 := Inv_raise hI1 (k := 1) (by decide)
          have := hI69.stepp
          have := hI69.n6
          have : (mRaise (cl1 ρ) 1) 5 = (cl1 ρ) 5 := raise_o (by decide)
          have : askedOf (mRaise (cl1 ρ) 1) 0 = askedOf (cl1 ρ) 0 := asked_raise (by decide)
          have : askedOf (mRaise (cl1 ρ) 1) 1 = askedOf (cl1 ρ) 1 := asked_raise (by decide)
          have : (mRaise (cl1 ρ) 1) 7 = (cl1 ρ) 7 := raise_o (by decide)
          have : askedOf (mRaise (cl1 ρ) 1) 2 = askedOf (cl1 ρ) 2 := asked_raise (by decide)
          have : (mRaise (cl1 ρ) 1) 0 = (cl1 ρ) 0 := raise_o (by decide)
          have : (mRaise (cl1 ρ) 1) 4 = (cl1 ρ) 4 := raise_o (by decide)
          have : (mRaise (cl1 ρ) 1) 5 = (cl1 ρ) 5 := raise_o (by decide)
          refine lv_iinc (v := (nI 2)) (lv' := [(2, .int (nI 2)), (3, .int (nI ((((cl1 ρ) 12) * ((cl1 ρ) 3)) / 100))), (1, .int (nI (scarce (cl1 ρ)))), (0, .ref a)]) hx hb dX6_closeOn_113 hl (k := 1) rfl (by decide) (by decide) rfl (fun ls hl => ?_)
          refine lv_goto (tgt := 53) hx hb dX6_closeOn_116 (by decide) ?_
          refine lv_iload_n hx hb dX6_closeOn_53 rfl (lv_at hl 0 rfl) ?_
          refine lv_iconst (v := (nI 3)) hx hb dX6_closeOn_54 (by decide) ?_
          refine x_cge M (tgt := 119) (by decide) (by decide) dX6_closeOn_55 (by decide) (fun c_70 => absurd c_70 (by decide)) (fun c_70 => ?_)
          refine lv_aload_n hx hb dX6_closeOn_58 rfl (lv_at hl 3 rfl) ?_
          refine lv_iload_n hx hb dX6_closeOn_59 rfl (lv_at hl 0 rfl) ?_
          refine x_cSI (As := [.ref a, .int (nI 2)]) (k_X6_asked l G Y a 2 (mRaise (cl1 ρ) 1) (hI69) (by omega)) cw_X6_53 [0] M hK hZ hw hl.1 rfl (by decide) ⟨by decide, by decide⟩ ⟨Nat.zero_le _, Nat.zero_le _⟩ rfl rfl (Nat.le_of_ble_eq_true rfl) dX6_closeOn_60 (fun r sg h_71 H locs hw => ?_)
          obtain ⟨rfl, rfl⟩ := h_71
          have hw : xW G A s.heap [[(a, .inl (Y 0, 140, .inl (rowF (mRaise (cl1 ρ) 1))))]] H locs := hw
          have q_72 : askedOf (mRaise (cl1 ρ) 1) 2 ≤ 54 := askedOf_le hI69 (by omega)
          refine lv_aload_n hx hb dX6_closeOn_63 rfl (lv_at hl 3 rfl) ?_
          refine lv_iconst (v := (nI 5)) hx hb dX6_closeOn_64 (by decide) ?_
          refine lv_iload_n hx hb dX6_closeOn_65 rfl (lv_at hl 0 rfl) ?_
          refine x_iadd M (n := 7) dX6_closeOn_66 rfl ?_
          refine x_iald M hK hw 0 0 rfl rfl (by decide) (by decide) dX6_closeOn_67 ?_
          refine x_topN (n := (mRaise (cl1 ρ) 1) 7) rfl ?_
          have q_73 : 1 ≤ (mRaise (cl1 ρ) 1) 7 := (hI69.sup (q := 7) (k := 2) (by decide) rfl).1
          have q_74 : (mRaise (cl1 ρ) 1) 7 ≤ 9 := (hI69.sup (q := 7) (k := 2) (by decide) rfl).2
          refine x_cle M (tgt := 113) (by omega) (by omega) dX6_closeOn_68 (by decide) (fun c_75 => ?_) (fun c_75 => ?_)
          · refine lv_iinc (v := (nI 3)) (lv' := [(2, .int (nI 3)), (3, .int (nI ((((cl1 ρ) 12) * ((cl1 ρ) 3)) / 100))), (1, .int (nI (scarce (cl1 ρ)))), (0, .ref a)]) hx hb dX6_closeOn_113 hl (k := 0) rfl (by decide) (by decide) rfl (fun ls hl => ?_)
            refine lv_goto (tgt := 53) hx hb dX6_closeOn_116 (by decide) ?_
            refine lv_iload_n hx hb dX6_closeOn_53 rfl (lv_at hl 0 rfl) ?_
            refine lv_iconst (v := (nI 3)) hx hb dX6_closeOn_54 (by decide) ?_
            refine x_cge M (tgt := 119) (by decide) (by decide) dX6_closeOn_55 (by decide) (fun c_76 => ?_) (fun c_76 => absurd c_76 (by decide))
            refine lv_aload_n hx hb dX6_closeOn_119 rfl (lv_at hl 3 rfl) ?_
            refine lv_iconst (v := (nI 1)) hx hb dX6_closeOn_120 (by decide) ?_
            refine lv_iload_n hx hb dX6_closeOn_121 rfl (lv_at hl 2 rfl) ?_
            refine x_zne M (tgt := 129) (by omega) dX6_closeOn_122 (by decide) (fun c_77 => ?_) (fun c_77 => ?_)
            · refine lv_iconst (v := (nI 0)) hx hb dX6_closeOn_129 (by decide) ?_
              refine x_iast M hK hw 0 0 rfl rfl (by decide) (by decide) dX6_closeOn_130 (fun H locs hw => ?_)
              rw [upd_row] at hw
              have hw : xW G A s.heap [[(a, .inl (Y 0, 140, .inl (rowF (setN (mRaise (cl1 ρ) 1) 1 0))))]] H locs := hw
              refine lv_aload_n hx hb dX6_closeOn_131 rfl (lv_at hl 3 rfl) ?_
              refine lv_iconst (v := (nI 0)) hx hb dX6_closeOn_132 (by decide) ?_
              refine lv_dup2_11 hx hb dX6_closeOn_133 rfl rfl ?_
              refine x_iald M hK hw 0 0 rfl rfl (by decide) (by decide) dX6_closeOn_134 ?_
              refine x_topN (n := (mRaise (cl1 ρ) 1) 0) (congrArg nI ((setN_n (by omega)).trans rfl)) ?_
              refine lv_iconst (v := (nI 1)) hx hb dX6_closeOn_135 (by decide) ?_
              refine x_iadd M (n := 1 + (mRaise (cl1 ρ) 1) 0) dX6_closeOn_136 (by omega) ?_
              refine x_iast M hK hw 0 0 rfl rfl (by decide) (by decide) dX6_closeOn_137 (fun H locs hw => ?_)
              rw [upd_row] at hw
              have hw : xW G A s.heap [[(a, .inl (Y 0, 140, .inl (rowF (setN (setN (mRaise (cl1 ρ) 1) 1 0) 0 (1 + (mRaise (cl1 ρ) 1) 0)))))]] H locs := hw
              refine lv_iload_n hx hb dX6_closeOn_138 rfl (lv_at hl 2 rfl) ?_
              have hQ : clQ (cl1 ρ) = mRaise (cl1 ρ) 1 := by unfold clQ; rw [show clP (cl1 ρ) 0 = cl1 ρ from if_neg (Nat.not_lt.mpr c_9), show clP (cl1 ρ) 1 = mRaise (cl1 ρ) 1 from if_pos c_15, show clP (mRaise (cl1 ρ) 1) 2 = mRaise (cl1 ρ) 1 from if_neg (Nat.not_lt.mpr c_75)]
              have hM : mClose ρ = setN (setN (mRaise (cl1 ρ) 1) 1 0) 0 (ρ 0 + 1) := by unfold mClose; rw [hQ, if_neg (by omega)]
              rw [show 1 + (mRaise (cl1 ρ) 1) 0 = ρ 0 + 1 by omega, ← hM] at hw
              exact hret _ _ _ (nI (scarce (cl1 ρ))) _ _ dX6_closeOn_139 hw rfl rfl ⟨rfl, rfl⟩
            refine lv_iconst (v := (nI 1)) hx hb dX6_closeOn_125 (by decide) ?_
            refine lv_goto (tgt := 130) hx hb dX6_closeOn_126 (by decide) ?_
            refine x_iast M hK hw 0 0 rfl rfl (by decide) (by decide) dX6_closeOn_130 (fun H locs hw => ?_)
            rw [upd_row] at hw
            have hw : xW G A s.heap [[(a, .inl (Y 0, 140, .inl (rowF (setN (mRaise (cl1 ρ) 1) 1 1))))]] H locs := hw
            refine lv_aload_n hx hb dX6_closeOn_131 rfl (lv_at hl 3 rfl) ?_
            refine lv_iconst (v := (nI 0)) hx hb dX6_closeOn_132 (by decide) ?_
            refine lv_dup2_11 hx hb dX6_closeOn_133 rfl rfl ?_
            refine x_iald M hK hw 0 0 rfl rfl (by decide) (by decide) dX6_closeOn_134 ?_
            refine x_topN (n := (mRaise (cl1 ρ) 1) 0) (congrArg nI ((setN_n (by omega)).trans rfl)) ?_
            refine lv_iconst (v := (nI 1)) hx hb dX6_closeOn_135 (by decide) ?_
            refine x_iadd M (n := 1 + (mRaise (cl1 ρ) 1) 0) dX6_closeOn_136 (by omega) ?_
            refine x_iast M hK hw 0 0 rfl rfl (by decide) (by decide) dX6_closeOn_137 (fun H locs hw => ?_)
            rw [upd_row] at hw
            have hw : xW G A s.heap [[(a, .inl (Y 0, 140, .inl (rowF (setN (setN (mRaise (cl1 ρ) 1) 1 1) 0 (1 + (mRaise (cl1 ρ) 1) 0)))))]] H locs := hw
            refine lv_iload_n hx hb dX6_closeOn_138 rfl (lv_at hl 2 rfl) ?_
            have hQ : clQ (cl1 ρ) = mRaise (cl1 ρ) 1 := by unfold clQ; rw [show clP (cl1 ρ) 0 = cl1 ρ from if_neg (Nat.not_lt.mpr c_9), show clP (cl1 ρ) 1 = mRaise (cl1 ρ) 1 from if_pos c_15, show clP (mRaise (cl1 ρ) 1) 2 = mRaise (cl1 ρ) 1 from if_neg (Nat.not_lt.mpr c_75)]
            have hM : mClose ρ = setN (setN (mRaise (cl1 ρ) 1) 1 1) 0 (ρ 0 + 1) := by unfold mClose; rw [hQ, if_pos (by omega)]
            rw [show 1 + (mRaise (cl1 ρ) 1) 0 = ρ 0 + 1 by omega, ← hM] at hw
            exact hret _ _ _ (nI (scarce (cl1 ρ))) _ _ dX6_closeOn_139 hw rfl rfl ⟨rfl, rfl⟩
          refine lv_aload_n hx hb dX6_closeOn_71 rfl (lv_at hl 3 rfl) ?_
          refine lv_bipush (v := (nI 11)) hx hb dX6_closeOn_72 (by decide) ?_
          refine lv_iload_n hx hb dX6_closeOn_74 rfl (lv_at hl 0 rfl) ?_
          refine x_iadd M (n := 13) dX6_closeOn_75 rfl ?_
          refine x_iald M hK hw 0 0 rfl rfl (by decide) (by decide) dX6_closeOn_76 ?_
          refine x_topN (n := (mRaise (cl1 ρ) 1) 13) rfl ?_
          have q_78 : 1 ≤ (mRaise (cl1 ρ) 1) 13 := (hI69.pri (q := 13) (k := 2) (by decide) rfl).1
          have q_79 : (mRaise (cl1 ρ) 1) 13 ≤ 99999 := (hI69.pri (q := 13) (k := 2) (by decide) rfl).2
          refine lv_aload_n hx hb dX6_closeOn_77 rfl (lv_at hl 3 rfl) ?_
          refine lv_iconst (v := (nI 3)) hx hb dX6_closeOn_78 (by decide) ?_
          refine x_iald M hK hw 0 0 rfl rfl (by decide) (by decide) dX6_closeOn_79 ?_
          refine x_topN (n := (mRaise (cl1 ρ) 1) 3) rfl ?_
          have q_80 : 1 ≤ (mRaise (cl1 ρ) 1) 3 := (hI69.stepp).1
          have q_81 : (mRaise (cl1 ρ) 1) 3 ≤ 50 := (hI69.stepp).2
          refine x_imul M (n := ((mRaise (cl1 ρ) 1) 13) * ((mRaise (cl1 ρ) 1) 3)) dX6_closeOn_80 rfl ?_
          have q_82 : ((mRaise (cl1 ρ) 1) 13) * ((mRaise (cl1 ρ) 1) 3) ≤ 4999950 := Nat.le_trans (Nat.mul_le_mul (show (mRaise (cl1 ρ) 1) 13 ≤ 99999 by omega) (show (mRaise (cl1 ρ) 1) 3 ≤ 50 by omega)) (by decide)
          refine lv_bipush (v := (nI 100)) hx hb dX6_closeOn_81 (by decide) ?_
          refine x_idiv M (n := (((mRaise (cl1 ρ) 1) 13) * ((mRaise (cl1 ρ) 1) 3)) / 100) dX6_closeOn_83 (by omega) (by omega) (by decide) rfl ?_
          refine lv_istore_n (lv' := [(3, .int (nI ((((mRaise (cl1 ρ) 1) 13) * ((mRaise (cl1 ρ) 1) 3)) / 100))), (2, .int (nI 2)), (1, .int (nI (scarce (cl1 ρ)))), (0, .ref a)]) hx hb dX6_closeOn_84 rfl hl (by decide) rfl (fun ls hl => ?_)
          refine lv_aload_n hx hb dX6_closeOn_85 rfl (lv_at hl 3 rfl) ?_
          refine lv_bipush (v := (nI 11)) hx hb dX6_closeOn_86 (by decide) ?_
          refine lv_iload_n hx hb dX6_closeOn_88 rfl (lv_at hl 1 rfl) ?_
          refine x_iadd M (n := 13) dX6_closeOn_89 rfl ?_
          refine lv_ldc (v := (nI 99999)) hx hb M.2.2.2.1 (M.2.2.2.2 _ mw_1137) dX6_closeOn_90 ?_
          refine lv_aload_n hx hb dX6_closeOn_92 rfl (lv_at hl 3 rfl) ?_
          refine lv_bipush (v := (nI 11)) hx hb dX6_closeOn_93 (by decide) ?_
          refine lv_iload_n hx hb dX6_closeOn_95 rfl (lv_at hl 1 rfl) ?_
          refine x_iadd M (n := 13) dX6_closeOn_96 rfl ?_
          refine x_iald M hK hw 0 0 rfl rfl (by decide) (by decide) dX6_closeOn_97 ?_
          refine x_topN (n := (mRaise (cl1 ρ) 1) 13) rfl ?_
          refine lv_iload_n hx hb dX6_closeOn_98 rfl (lv_at hl 0 rfl) ?_
          refine lv_iconst (v := (nI 1)) hx hb dX6_closeOn_99 (by decide) ?_
          refine x_cge M (tgt := 107) (by omega) (by decide) dX6_closeOn_100 (by decide) (fun c_83 => ?_) (fun c_83 => ?_)
          · refine lv_iload_n hx hb dX6_closeOn_107 rfl (lv_at hl 0 rfl) ?_
            refine x_iadd M (n := (mRaise (cl1 ρ) 1) 13 + ((((mRaise (cl1 ρ) 1) 13) * ((mRaise (cl1 ρ) 1) 3)) / 100)) dX6_closeOn_108 rfl ?_
            refine x_cSI (As := [.int (nI 99999), .int (nI ((mRaise (cl1 ρ) 1) 13 + ((((mRaise (cl1 ρ) 1) 13) * ((mRaise (cl1 ρ) 1) 3)) / 100)))]) (k_X6_less l G Y 99999 ((mRaise (cl1 ρ) 1) 13 + ((((mRaise (cl1 ρ) 1) 13) * ((mRaise (cl1 ρ) 1) 3)) / 100)) (by omega) (by omega)) cw_X6_61 [] M hK hZ hw hl.1 rfl (by decide) ⟨by decide, by decide⟩ ⟨Nat.zero_le _, Nat.zero_le _⟩ rfl rfl (Nat.le_of_ble_eq_true rfl) dX6_closeOn_109 (fun r sg h_84 H locs hw => ?_)
            obtain ⟨rfl, rfl⟩ := h_84
            have hw : xW G A s.heap [[(a, .inl (Y 0, 140, .inl (rowF (mRaise (cl1 ρ) 1))))]] H locs := hw
            refine x_iast M hK hw 0 0 rfl rfl (by decide) (by decide) dX6_closeOn_112 (fun H locs hw => ?_)
            rw [upd_row] at hw
            have hw : xW G A s.heap [[(a, .inl (Y 0, 140, .inl (rowF (setN (mRaise (cl1 ρ) 1) 13 (min 99999 ((mRaise (cl1 ρ) 1) 13 + ((((mRaise (cl1 ρ) 1) 13) * ((mRaise (cl1 ρ) 1) 3)) / 100)))))))]] H locs := hw
            have hw := row_fold (i := 0) (f' := rowF (mRaise (mRaise (cl1 ρ) 1) 2)) hw rfl (fun q hq => congrArg nI (raise_row (k := 2) rfl (by omega)))
            have hw : xW G A s.heap [[(a, .inl (Y 0, 140, .inl (rowF (mRaise (mRaise (cl1 ρ) 1) 2))))]] H locs := hw
            have hI85 := Inv_raise hI69 (k := 2) (by decide)
            have := hI85.stepp
            have := hI85.n6
            have : (mRaise (mRaise (cl1 ρ) 1) 2) 5 = (mRaise (cl1 ρ) 1) 5 := raise_o (by decide)
            have : askedOf (mRaise (mRaise (cl1 ρ) 1) 2) 0 = askedOf (mRaise (cl1 ρ) 1) 0 := asked_raise (by decide)
            have : (mRaise (mRaise (cl1 ρ) 1) 2) 6 = (mRaise (cl1 ρ) 1) 6 := raise_o (by decide)
            have : askedOf (mRaise (mRaise (cl1 ρ) 1) 2) 1 = askedOf (mRaise (cl1 ρ) 1) 1 := asked_raise (by decide)
            have : askedOf (mRaise (mRaise (cl1 ρ) 1) 2) 2 = askedOf (mRaise (cl1 ρ) 1) 2 := asked_raise (by decide)
            have : (mRaise (mRaise (cl1 ρ) 1) 2) 0 = (mRaise (cl1 ρ) 1) 0 := raise_o (by decide)
            have : (mRaise (mRaise (cl1 ρ) 1) 2) 4 = (mRaise (cl1 ρ) 1) 4 := raise_o (by decide)
            have : (mRaise (mRaise (cl1 ρ) 1) 2) 5 = (mRaise (cl1 ρ) 1) 5 := raise_o (by decide)
            refine lv_iinc (v := (nI 3)) (lv' := [(2, .int (nI 3)), (3, .int (nI ((((mRaise (cl1 ρ) 1) 13) * ((mRaise (cl1 ρ) 1) 3)) / 100))), (1, .int (nI (scarce (cl1 ρ)))), (0, .ref a)]) hx hb dX6_closeOn_113 hl (k := 1) rfl (by decide) (by decide) rfl (fun ls hl => ?_)
            refine lv_goto (tgt := 53) hx hb dX6_closeOn_116 (by decide) ?_
            refine lv_iload_n hx hb dX6_closeOn_53 rfl (lv_at hl 0 rfl) ?_
            refine lv_iconst (v := (nI 3)) hx hb dX6_closeOn_54 (by decide) ?_
            refine x_cge M (tgt := 119) (by decide) (by decide) dX6_closeOn_55 (by decide) (fun c_86 => ?_) (fun c_86 => absurd c_86 (by decide))
            refine lv_aload_n hx hb dX6_closeOn_119 rfl (lv_at hl 3 rfl) ?_
            refine lv_iconst (v := (nI 1)) hx hb dX6_closeOn_120 (by decide) ?_
            refine lv_iload_n hx hb dX6_closeOn_121 rfl (lv_at hl 2 rfl) ?_
            refine x_zne M (tgt := 129) (by omega) dX6_closeOn_122 (by decide) (fun c_87 => ?_) (fun c_87 => ?_)
            · refine lv_iconst (v := (nI 0)) hx hb dX6_closeOn_129 (by decide) ?_
              refine x_iast M hK hw 0 0 rfl rfl (by decide) (by decide) dX6_closeOn_130 (fun H locs hw => ?_)
              rw [upd_row] at hw
              have hw : xW G A s.heap [[(a, .inl (Y 0, 140, .inl (rowF (setN (mRaise (mRaise (cl1 ρ) 1) 2) 1 0))))]] H locs := hw
              refine lv_aload_n hx hb dX6_closeOn_131 rfl (lv_at hl 3 rfl) ?_
              refine lv_iconst (v := (nI 0)) hx hb dX6_closeOn_132 (by decide) ?_
              refine lv_dup2_11 hx hb dX6_closeOn_133 rfl rfl ?_
              refine x_iald M hK hw 0 0 rfl rfl (by decide) (by decide) dX6_closeOn_134 ?_
              refine x_topN (n := (mRaise (mRaise (cl1 ρ) 1) 2) 0) (congrArg nI ((setN_n (by omega)).trans rfl)) ?_
              refine lv_iconst (v := (nI 1)) hx hb dX6_closeOn_135 (by decide) ?_
              refine x_iadd M (n := 1 + (mRaise (mRaise (cl1 ρ) 1) 2) 0) dX6_closeOn_136 (by omega) ?_
              refine x_iast M hK hw 0 0 rfl rfl (by decide) (by decide) dX6_closeOn_137 (fun H locs hw => ?_)
              rw [upd_row] at hw
              have hw : xW G A s.heap [[(a, .inl (Y 0, 140, .inl (rowF (setN (setN (mRaise (mRaise (cl1 ρ) 1) 2) 1 0) 0 (1 + (mRaise (mRaise (cl1 ρ) 1) 2) 0)))))]] H locs := hw
              refine lv_iload_n hx hb dX6_closeOn_138 rfl (lv_at hl 2 rfl) ?_
              have hQ : clQ (cl1 ρ) = mRaise (mRaise (cl1 ρ) 1) 2 := by unfold clQ; rw [show clP (cl1 ρ) 0 = cl1 ρ from if_neg (Nat.not_lt.mpr c_9), show clP (cl1 ρ) 1 = mRaise (cl1 ρ) 1 from if_pos c_15, show clP (mRaise (cl1 ρ) 1) 2 = mRaise (mRaise (cl1 ρ) 1) 2 from if_pos c_75]
              have hM : mClose ρ = setN (setN (mRaise (mRaise (cl1 ρ) 1) 2) 1 0) 0 (ρ 0 + 1) := by unfold mClose; rw [hQ, if_neg (by omega)]
              rw [show 1 + (mRaise (mRaise (cl1 ρ) 1) 2) 0 = ρ 0 + 1 by omega, ← hM] at hw
              exact hret _ _ _ (nI (scarce (cl1 ρ))) _ _ dX6_closeOn_139 hw rfl rfl ⟨rfl, rfl⟩
            refine lv_iconst (v := (nI 1)) hx hb dX6_closeOn_125 (by decide) ?_
            refine lv_goto (tgt := 130) hx hb dX6_closeOn_126 (by decide) ?_
            refine x_iast M hK hw 0 0 rfl rfl (by decide) (by decide) dX6_closeOn_130 (fun H locs hw => ?_)
            rw [upd_row] at hw
            have hw : xW G A s.heap [[(a, .inl (Y 0, 140, .inl (rowF (setN (mRaise (mRaise (cl1 ρ) 1) 2) 1 1))))]] H locs := hw
            refine lv_aload_n hx hb dX6_closeOn_131 rfl (lv_at hl 3 rfl) ?_
            refine lv_iconst (v := (nI 0)) hx hb dX6_closeOn_132 (by decide) ?_
            refine lv_dup2_11 hx hb dX6_closeOn_133 rfl rfl ?_
            refine x_iald M hK hw 0 0 rfl rfl (by decide) (by decide) dX6_closeOn_134 ?_
            refine x_topN (n := (mRaise (mRaise (cl1 ρ) 1) 2) 0) (congrArg nI ((setN_n (by omega)).trans rfl)) ?_
            refine lv_iconst (v := (nI 1)) hx hb dX6_closeOn_135 (by decide) ?_
            refine x_iadd M (n := 1 + (mRaise (mRaise (cl1 ρ) 1) 2) 0) dX6_closeOn_136 (by omega) ?_
            refine x_iast M hK hw 0 0 rfl rfl (by decide) (by decide) dX6_closeOn_137 (fun H locs hw => ?_)
            rw [upd_row] at hw
            have hw : xW G A s.heap [[(a, .inl (Y 0, 140, .inl (rowF (setN (setN (mRaise (mRaise (cl1 ρ) 1) 2) 1 1) 0 (1 + (mRaise (mRaise (cl1 ρ) 1) 2) 0)))))]] H locs := hw
            refine lv_iload_n hx hb dX6_closeOn_138 rfl (lv_at hl 2 rfl) ?_
            have hQ : clQ (cl1 ρ) = mRaise (mRaise (cl1 ρ) 1) 2 := by unfold clQ; rw [show clP (cl1 ρ) 0 = cl1 ρ from if_neg (Nat.not_lt.mpr c_9), show clP (cl1 ρ) 1 = mRaise (cl1 ρ) 1 from if_pos c_15, show clP (mRaise (cl1 ρ) 1) 2 = mRaise (mRaise (cl1 ρ) 1) 2 from if_pos c_75]
            have hM : mClose ρ = setN (setN (mRaise (mRaise (cl1 ρ) 1) 2) 1 1) 0 (ρ 0 + 1) := by unfold mClose; rw [hQ, if_pos (by omega)]
            rw [show 1 + (mRaise (mRaise (cl1 ρ) 1) 2) 0 = ρ 0 + 1 by omega, ← hM] at hw
            exact hret _ _ _ (nI (scarce (cl1 ρ))) _ _ dX6_closeOn_139 hw rfl rfl ⟨rfl, rfl⟩
          refine lv_iconst (v := (nI 1)) hx hb dX6_closeOn_103 (by decide) ?_
          refine lv_goto (tgt := 108) hx hb dX6_closeOn_104 (by decide) ?_
          refine x_iadd M (n := 1 + (mRaise (cl1 ρ) 1) 13) dX6_closeOn_108 (by omega) ?_
          refine x_cSI (As := [.int (nI 99999), .int (nI (1 + (mRaise (cl1 ρ) 1) 13))]) (k_X6_less l G Y 99999 (1 + (mRaise (cl1 ρ) 1) 13) (by omega) (by omega)) cw_X6_61 [] M hK hZ hw hl.1 rfl (by decide) ⟨by decide, by decide⟩ ⟨Nat.zero_le _, Nat.zero_le _⟩ rfl rfl (Nat.le_of_ble_eq_true rfl) dX6_closeOn_109 (fun r sg h_88 H locs hw => ?_)
          obtain ⟨rfl, rfl⟩ := h_88
          have hw : xW G A s.heap [[(a, .inl (Y 0, 140, .inl (rowF (mRaise (cl1 ρ) 1))))]] H locs := hw
          refine x_iast M hK hw 0 0 rfl rfl (by decide) (by decide) dX6_closeOn_112 (fun H locs hw => ?_)
          rw [upd_row] at hw
          have hw : xW G A s.heap [[(a, .inl (Y 0, 140, .inl (rowF (setN (mRaise (cl1 ρ) 1) 13 (min 99999 (1 + (mRaise (cl1 ρ) 1) 13))))))]] H locs := hw
          have hw := row_fold (i := 0) (f' := rowF (mRaise (mRaise (cl1 ρ) 1) 2)) hw rfl (fun q hq => congrArg nI (raise_row (k := 2) rfl (by omega)))
          have hw : xW G A s.heap [[(a, .inl (Y 0, 140, .inl (rowF (mRaise (mRaise (cl1 ρ) 1) 2))))]] H locs := hw
          have hI89 := Inv_raise hI69 (k := 2) (by decide)
          have := hI89.stepp
          have := hI89.n6
          have : (mRaise (mRaise (cl1 ρ) 1) 2) 5 = (mRaise (cl1 ρ) 1) 5 := raise_o (by decide)
          have : askedOf (mRaise (mRaise (cl1 ρ) 1) 2) 0 = askedOf (mRaise (cl1 ρ) 1) 0 := asked_raise (by decide)
          have : (mRaise (mRaise (cl1 ρ) 1) 2) 6 = (mRaise (cl1 ρ) 1) 6 := raise_o (by decide)
          have : askedOf (mRaise (mRaise (cl1 ρ) 1) 2) 1 = askedOf (mRaise (cl1 ρ) 1) 1 := asked_raise (by decide)
          have : askedOf (mRaise (mRaise (cl1 ρ) 1) 2) 2 = askedOf (mRaise (cl1 ρ) 1) 2 := asked_raise (by decide)
          have : (mRaise (mRaise (cl1 ρ) 1) 2) 0 = (mRaise (cl1 ρ) 1) 0 := raise_o (by decide)
          have : (mRaise (mRaise (cl1 ρ) 1) 2) 4 = (mRaise (cl1 ρ) 1) 4 := raise_o (by decide)
          have : (mRaise (mRaise (cl1 ρ) 1) 2) 5 = (mRaise (cl1 ρ) 1) 5 := raise_o (by decide)
          refine lv_iinc (v := (nI 3)) (lv' := [(2, .int (nI 3)), (3, .int (nI ((((mRaise (cl1 ρ) 1) 13) * ((mRaise (cl1 ρ) 1) 3)) / 100))), (1, .int (nI (scarce (cl1 ρ)))), (0, .ref a)]) hx hb dX6_closeOn_113 hl (k := 1) rfl (by decide) (by decide) rfl (fun ls hl => ?_)
          refine lv_goto (tgt := 53) hx hb dX6_closeOn_116 (by decide) ?_
          refine lv_iload_n hx hb dX6_closeOn_53 rfl (lv_at hl 0 rfl) ?_
          refine lv_iconst (v := (nI 3)) hx hb dX6_closeOn_54 (by decide) ?_
          refine x_cge M (tgt := 119) (by decide) (by decide) dX6_closeOn_55 (by decide) (fun c_90 => ?_) (fun c_90 => absurd c_90 (by decide))
          refine lv_aload_n hx hb dX6_closeOn_119 rfl (lv_at hl 3 rfl) ?_
          refine lv_iconst (v := (nI 1)) hx hb dX6_closeOn_120 (by decide) ?_
          refine lv_iload_n hx hb dX6_closeOn_121 rfl (lv_at hl 2 rfl) ?_
          refine x_zne M (tgt := 129) (by omega) dX6_closeOn_122 (by decide) (fun c_91 => ?_) (fun c_91 => ?_)
          · refine lv_iconst (v := (nI 0)) hx hb dX6_closeOn_129 (by decide) ?_
            refine x_iast M hK hw 0 0 rfl rfl (by decide) (by decide) dX6_closeOn_130 (fun H locs hw => ?_)
            rw [upd_row] at hw
            have hw : xW G A s.heap [[(a, .inl (Y 0, 140, .inl (rowF (setN (mRaise (mRaise (cl1 ρ) 1) 2) 1 0))))]] H locs := hw
            refine lv_aload_n hx hb dX6_closeOn_131 rfl (lv_at hl 3 rfl) ?_
            refine lv_iconst (v := (nI 0)) hx hb dX6_closeOn_132 (by decide) ?_
            refine lv_dup2_11 hx hb dX6_closeOn_133 rfl rfl ?_
            refine x_iald M hK hw 0 0 rfl rfl (by decide) (by decide) dX6_closeOn_134 ?_
            refine x_topN (n := (mRaise (mRaise (cl1 ρ) 1) 2) 0) (congrArg nI ((setN_n (by omega)).trans rfl)) ?_
            refine lv_iconst (v := (nI 1)) hx hb dX6_closeOn_135 (by decide) ?_
            refine x_iadd M (n := 1 + (mRaise (mRaise (cl1 ρ) 1) 2) 0) dX6_closeOn_136 (by omega) ?_
            refine x_iast M hK hw 0 0 rfl rfl (by decide) (by decide) dX6_closeOn_137 (fun H locs hw => ?_)
            rw [upd_row] at hw
            have hw : xW G A s.heap [[(a, .inl (Y 0, 140, .inl (rowF (setN (setN (mRaise (mRaise (cl1 ρ) 1) 2) 1 0) 0 (1 + (mRaise (mRaise (cl1 ρ) 1) 2) 0)))))]] H locs := hw
            refine lv_iload_n hx hb dX6_closeOn_138 rfl (lv_at hl 2 rfl) ?_
            have hQ : clQ (cl1 ρ) = mRaise (mRaise (cl1 ρ) 1) 2 := by unfold clQ; rw [show clP (cl1 ρ) 0 = cl1 ρ from if_neg (Nat.not_lt.mpr c_9), show clP (cl1 ρ) 1 = mRaise (cl1 ρ) 1 from if_pos c_15, show clP (mRaise (cl1 ρ) 1) 2 = mRaise (mRaise (cl1 ρ) 1) 2 from if_pos c_75]
            have hM : mClose ρ = setN (setN (mRaise (mRaise (cl1 ρ) 1) 2) 1 0) 0 (ρ 0 + 1) := by unfold mClose; rw [hQ, if_neg (by omega)]
            rw [show 1 + (mRaise (mRaise (cl1 ρ) 1) 2) 0 = ρ 0 + 1 by omega, ← hM] at hw
            exact hret _ _ _ (nI (scarce (cl1 ρ))) _ _ dX6_closeOn_139 hw rfl rfl ⟨rfl, rfl⟩
          refine lv_iconst (v := (nI 1)) hx hb dX6_closeOn_125 (by decide) ?_
          refine lv_goto (tgt := 130) hx hb dX6_closeOn_126 (by decide) ?_
          refine x_iast M hK hw 0 0 rfl rfl (by decide) (by decide) dX6_closeOn_130 (fun H locs hw => ?_)
          rw [upd_row] at hw
          have hw : xW G A s.heap [[(a, .inl (Y 0, 140, .inl (rowF (setN (mRaise (mRaise (cl1 ρ) 1) 2) 1 1))))]] H locs := hw
          refine lv_aload_n hx hb dX6_closeOn_131 rfl (lv_at hl 3 rfl) ?_
          refine lv_iconst (v := (nI 0)) hx hb dX6_closeOn_132 (by decide) ?_
          refine lv_dup2_11 hx hb dX6_closeOn_133 rfl rfl ?_
          refine x_iald M hK hw 0 0 rfl rfl (by decide) (by decide) dX6_closeOn_134 ?_
          refine x_topN (n := (mRaise (mRaise (cl1 ρ) 1) 2) 0) (congrArg nI ((setN_n (by omega)).trans rfl)) ?_
          refine lv_iconst (v := (nI 1)) hx hb dX6_closeOn_135 (by decide) ?_
          refine x_iadd M (n := 1 + (mRaise (mRaise (cl1 ρ) 1) 2) 0) dX6_closeOn_136 (by omega) ?_
          refine x_iast M hK hw 0 0 rfl rfl (by decide) (by decide) dX6_closeOn_137 (fun H locs hw => ?_)
          rw [upd_row] at hw
          have hw : xW G A s.heap [[(a, .inl (Y 0, 140, .inl (rowF (setN (setN (mRaise (mRaise (cl1 ρ) 1) 2) 1 1) 0 (1 + (mRaise (mRaise (cl1 ρ) 1) 2) 0)))))]] H locs := hw
          refine lv_iload_n hx hb dX6_closeOn_138 rfl (lv_at hl 2 rfl) ?_
          have hQ : clQ (cl1 ρ) = mRaise (mRaise (cl1 ρ) 1) 2 := by unfold clQ; rw [show clP (cl1 ρ) 0 = cl1 ρ from if_neg (Nat.not_lt.mpr c_9), show clP (cl1 ρ) 1 = mRaise (cl1 ρ) 1 from if_pos c_15, show clP (mRaise (cl1 ρ) 1) 2 = mRaise (mRaise (cl1 ρ) 1) 2 from if_pos c_75]
          have hM : mClose ρ = setN (setN (mRaise (mRaise (cl1 ρ) 1) 2) 1 1) 0 (ρ 0 + 1) := by unfold mClose; rw [hQ, if_pos (by omega)]
          rw [show 1 + (mRaise (mRaise (cl1 ρ) 1) 2) 0 = ρ 0 + 1 by omega, ← hM] at hw
          exact hret _ _ _ (nI (scarce (cl1 ρ))) _ _ dX6_closeOn_139 hw rfl rfl ⟨rfl, rfl⟩
        refine lv_aload_n hx hb dX6_closeOn_71 rfl (lv_at hl 2 rfl) ?_
        refine lv_bipush (v := (nI 11)) hx hb dX6_closeOn_72 (by decide) ?_
        refine lv_iload_n hx hb dX6_closeOn_74 rfl (lv_at hl 0 rfl) ?_
        refine x_iadd M (n := 11) dX6_closeOn_75 rfl ?_
        refine x_iald M hK hw 0 0 rfl rfl (by decide) (by decide) dX6_closeOn_76 ?_
        refine x_topN (n := (cl1 ρ) 11) rfl ?_
        have q_92 : 1 ≤ (cl1 ρ) 11 := (hI1.pri (q := 11) (k := 0) (by decide) rfl).1
        have q_93 : (cl1 ρ) 11 ≤ 99999 := (hI1.pri (q := 11) (k := 0) (by decide) rfl).2
        refine lv_aload_n hx hb dX6_closeOn_77 rfl (lv_at hl 2 rfl) ?_
        refine lv_iconst (v := (nI 3)) hx hb dX6_closeOn_78 (by decide) ?_
        refine x_iald M hK hw 0 0 rfl rfl (by decide) (by decide) dX6_closeOn_79 ?_
        refine x_topN (n := (cl1 ρ) 3) rfl ?_
        have q_94 : 1 ≤ (cl1 ρ) 3 := (hI1.stepp).1
        have q_95 : (cl1 ρ) 3 ≤ 50 := (hI1.stepp).2
        refine x_imul M (n := ((cl1 ρ) 11) * ((cl1 ρ) 3)) dX6_closeOn_80 rfl ?_
        have q_96 : ((cl1 ρ) 11) * ((cl1 ρ) 3) ≤ 4999950 := Nat.le_trans (Nat.mul_le_mul (show (cl1 ρ) 11 ≤ 99999 by omega) (show (cl1 ρ) 3 ≤ 50 by omega)) (by decide)
        refine lv_bipush (v := (nI 100)) hx hb dX6_closeOn_81 (by decide) ?_
        refine x_idiv M (n := (((cl1 ρ) 11) * ((cl1 ρ) 3)) / 100) dX6_closeOn_83 (by omega) (by omega) (by decide) rfl ?_
        refine lv_istore_n (lv' := [(3, .int (nI ((((cl1 ρ) 11) * ((cl1 ρ) 3)) / 100))), (2, .int (nI 0)), (1, .int (nI (scarce (cl1 ρ)))), (0, .ref a)]) hx hb dX6_closeOn_84 rfl hl (by decide) rfl (fun ls hl => ?_)
        refine lv_aload_n hx hb dX6_closeOn_85 rfl (lv_at hl 3 rfl) ?_
        refine lv_bipush (v := (nI 11)) hx hb dX6_closeOn_86 (by decide) ?_
        refine lv_iload_n hx hb dX6_closeOn_88 rfl (lv_at hl 1 rfl) ?_
        refine x_iadd M (n := 11) dX6_closeOn_89 rfl ?_
        refine lv_ldc (v := (nI 99999)) hx hb M.2.2.2.1 (M.2.2.2.2 _ mw_1137) dX6_closeOn_90 ?_
        refine lv_aload_n hx hb dX6_closeOn_92 rfl (lv_at hl 3 rfl) ?_
        refine lv_bipush (v := (nI 11)) hx hb dX6_closeOn_93 (by decide) ?_
        refine lv_iload_n hx hb dX6_closeOn_95 rfl (lv_at hl 1 rfl) ?_
        refine x_iadd M (n := 11) dX6_closeOn_96 rfl ?_
        refine x_iald M hK hw 0 0 rfl rfl (by decide) (by decide) dX6_closeOn_97 ?_
        refine x_topN (n := (cl1 ρ) 11) rfl ?_
        refine lv_iload_n hx hb dX6_closeOn_98 rfl (lv_at hl 0 rfl) ?_
        refine lv_iconst (v := (nI 1)) hx hb dX6_closeOn_99 (by decide) ?_
        refine x_cge M (tgt := 107) (by omega) (by decide) dX6_closeOn_100 (by decide) (fun c_97 => ?_) (fun c_97 => ?_)
        · refine lv_iload_n hx hb dX6_closeOn_107 rfl (lv_at hl 0 rfl) ?_
          refine x_iadd M (n := (cl1 ρ) 11 + ((((cl1 ρ) 11) * ((cl1 ρ) 3)) / 100)) dX6_closeOn_108 rfl ?_
          refine x_cSI (As := [.int (nI 99999), .int (nI ((cl1 ρ) 11 + ((((cl1 ρ) 11) * ((cl1 ρ) 3)) / 100)))]) (k_X6_less l G Y 99999 ((cl1 ρ) 11 + ((((cl1 ρ) 11) * ((cl1 ρ) 3)) / 100)) (by omega) (by omega)) cw_X6_61 [] M hK hZ hw hl.1 rfl (by decide) ⟨by decide, by decide⟩ ⟨Nat.zero_le _, Nat.zero_le _⟩ rfl rfl (Nat.le_of_ble_eq_true rfl) dX6_closeOn_109 (fun r sg h_98 H locs hw => ?_)
          obtain ⟨rfl, rfl⟩ := h_98
          have hw : xW G A s.heap [[(a, .inl (Y 0, 140, .inl (rowF (cl1 ρ))))]] H locs := hw
          refine x_iast M hK hw 0 0 rfl rfl (by decide) (by decide) dX6_closeOn_112 (fun H locs hw => ?_)
          rw [upd_row] at hw
          have hw : xW G A s.heap [[(a, .inl (Y 0, 140, .inl (rowF (setN (cl1 ρ) 11 (min 99999 ((cl1 ρ) 11 + ((((cl1 ρ) 11) * ((cl1 ρ) 3)) / 100)))))))]] H locs := hw
          have hw := row_fold (i := 0) (f' := rowF (mRaise (cl1 ρ) 0)) hw rfl (fun q hq => congrArg nI (raise_row (k := 0) rfl (by omega)))
          have hw : xW G A s.heap [[(a, .inl (Y 0, 140, .inl (rowF (mRaise (cl1 ρ) 0))))]] H locs := hw
          have hI99 := Inv_raise hI1 (k := 0) (by decide)
          have := hI99.stepp
          have := hI99.n6
          have : askedOf (mRaise (cl1 ρ) 0) 0 = askedOf (cl1 ρ) 0 := asked_raise (by decide)
          have : (mRaise (cl1 ρ) 0) 6 = (cl1 ρ) 6 := raise_o (by decide)
          have : askedOf (mRaise (cl1 ρ) 0) 1 = askedOf (cl1 ρ) 1 := asked_raise (by decide)
          have : (mRaise (cl1 ρ) 0) 7 = (cl1 ρ) 7 := raise_o (by decide)
          have : askedOf (mRaise (cl1 ρ) 0) 2 = askedOf (cl1 ρ) 2 := asked_raise (by decide)
          have : (mRaise (cl1 ρ) 0) 0 = (cl1 ρ) 0 := raise_o (by decide)
          have : (mRaise (cl1 ρ) 0) 4 = (cl1 ρ) 4 := raise_o (by decide)
          have : (mRaise (cl1 ρ) 0) 5 = (cl1 ρ) 5 := raise_o (by decide)
          refine lv_iinc (v := (nI 1)) (lv' := [(2, .int (nI 1)), (3, .int (nI ((((cl1 ρ) 11) * ((cl1 ρ) 3)) / 100))), (1, .int (nI (scarce (cl1 ρ)))), (0, .ref a)]) hx hb dX6_closeOn_113 hl (k := 1) rfl (by decide) (by decide) rfl (fun ls hl => ?_)
          refine lv_goto (tgt := 53) hx hb dX6_closeOn_116 (by decide) ?_
          refine lv_iload_n hx hb dX6_closeOn_53 rfl (lv_at hl 0 rfl) ?_
          refine lv_iconst (v := (nI 3)) hx hb dX6_closeOn_54 (by decide) ?_
          refine x_cge M (tgt := 119) (by decide) (by decide) dX6_closeOn_55 (by decide) (fun c_100 => absurd c_100 (by decide)) (fun c_100 => ?_)
          refine lv_aload_n hx hb dX6_closeOn_58 rfl (lv_at hl 3 rfl) ?_
          refine lv_iload_n hx hb dX6_closeOn_59 rfl (lv_at hl 0 rfl) ?_
          refine x_cSI (As := [.ref a, .int (nI 1)]) (k_X6_asked l G Y a 1 (mRaise (cl1 ρ) 0) (hI99) (by omega)) cw_X6_53 [0] M hK hZ hw hl.1 rfl (by decide) ⟨by decide, by decide⟩ ⟨Nat.zero_le _, Nat.zero_le _⟩ rfl rfl (Nat.le_of_ble_eq_true rfl) dX6_closeOn_60 (fun r sg h_101 H locs hw => ?_)
          obtain ⟨rfl, rfl⟩ := h_101
          have hw : xW G A s.heap [[(a, .inl (Y 0, 140, .inl (rowF (mRaise (cl1 ρ) 0))))]] H locs := hw
          have q_102 : askedOf (mRaise (cl1 ρ) 0) 1 ≤ 54 := askedOf_le hI99 (by omega)
          refine lv_aload_n hx hb dX6_closeOn_63 rfl (lv_at hl 3 rfl) ?_
          refine lv_iconst (v := (nI 5)) hx hb dX6_closeOn_64 (by decide) ?_
          refine lv_iload_n hx hb dX6_closeOn_65 rfl (lv_at hl 0 rfl) ?_
          refine x_iadd M (n := 6) dX6_closeOn_66 rfl ?_
          refine x_iald M hK hw 0 0 rfl rfl (by decide) (by decide) dX6_closeOn_67 ?_
          refine x_topN (n := (mRaise (cl1 ρ) 0) 6) rfl ?_
          have q_103 : 1 ≤ (mRaise (cl1 ρ) 0) 6 := (hI99.sup (q := 6) (k := 1) (by decide) rfl).1
          have q_104 : (mRaise (cl1 ρ) 0) 6 ≤ 9 := (hI99.sup (q := 6) (k := 1) (by decide) rfl).2
          refine x_cle M (tgt := 113) (by omega) (by omega) dX6_closeOn_68 (by decide) (fun c_105 => ?_) (fun c_105 => ?_)
          · refine lv_iinc (v := (nI 2)) (lv' := [(2, .int (nI 2)), (3, .int (nI ((((cl1 ρ) 11) * ((cl1 ρ) 3)) / 100))), (1, .int (nI (scarce (cl1 ρ)))), (0, .ref a)]) hx hb dX6_closeOn_113 hl (k := 0) rfl (by decide) (by decide) rfl (fun ls hl => ?_)
            refine lv_goto (tgt := 53) hx hb dX6_closeOn_116 (by decide) ?_
            refine lv_iload_n hx hb dX6_closeOn_53 rfl (lv_at hl 0 rfl) ?_
            refine lv_iconst (v := (nI 3)) hx hb dX6_closeOn_54 (by decide) ?_
            refine x_cge M (tgt := 119) (by decide) (by decide) dX6_closeOn_55 (by decide) (fun c_106 => absurd c_106 (by decide)) (fun c_106 => ?_)
            refine lv_aload_n hx hb dX6_closeOn_58 rfl (lv_at hl 3 rfl) ?_
            refine lv_iload_n hx hb dX6_closeOn_59 rfl (lv_at hl 0 rfl) ?_
            refine x_cSI (As := [.ref a, .int (nI 2)]) (k_X6_asked l G Y a 2 (mRaise (cl1 ρ) 0) (hI99) (by omega)) cw_X6_53 [0] M hK hZ hw hl.1 rfl (by decide) ⟨by decide, by decide⟩ ⟨Nat.zero_le _, Nat.zero_le _⟩ rfl rfl (Nat.le_of_ble_eq_true rfl) dX6_closeOn_60 (fun r sg h_107 H locs hw => ?_)
            obtain ⟨rfl, rfl⟩ := h_107
            have hw : xW G A s.heap [[(a, .inl (Y 0, 140, .inl (rowF (mRaise (cl1 ρ) 0))))]] H locs := hw
            have q_108 : askedOf (mRaise (cl1 ρ) 0) 2 ≤ 54 := askedOf_le hI99 (by omega)
            refine lv_aload_n hx hb dX6_closeOn_63 rfl (lv_at hl 3 rfl) ?_
            refine lv_iconst (v := (nI 5)) hx hb dX6_closeOn_64 (by decide) ?_
            refine lv_iload_n hx hb dX6_closeOn_65 rfl (lv_at hl 0 rfl) ?_
            refine x_iadd M (n := 7) dX6_closeOn_66 rfl ?_
            refine x_iald M hK hw 0 0 rfl rfl (by decide) (by decide) dX6_closeOn_67 ?_
            refine x_topN (n := (mRaise (cl1 ρ) 0) 7) rfl ?_
            have q_109 : 1 ≤ (mRaise (cl1 ρ) 0) 7 := (hI99.sup (q := 7) (k := 2) (by decide) rfl).1
            have q_110 : (mRaise (cl1 ρ) 0) 7 ≤ 9 := (hI99.sup (q := 7) (k := 2) (by decide) rfl).2
            refine x_cle M (tgt := 113) (by omega) (by omega) dX6_closeOn_68 (by decide) (fun c_111 => ?_) (fun c_111 => ?_)
            · refine lv_iinc (v := (nI 3)) (lv' := [(2, .int (nI 3)), (3, .int (nI ((((cl1 ρ) 11) * ((cl1 ρ) 3)) / 100))), (1, .int (nI (scarce (cl1 ρ)))), (0, .ref a)]) hx hb dX6_closeOn_113 hl (k := 0) rfl (by decide) (by decide) rfl (fun ls hl => ?_)
              refine lv_goto (tgt := 53) hx hb dX6_closeOn_116 (by decide) ?_
              refine lv_iload_n hx hb dX6_closeOn_53 rfl (lv_at hl 0 rfl) ?_
              refine lv_iconst (v := (nI 3)) hx hb dX6_closeOn_54 (by decide) ?_
              refine x_cge M (tgt := 119) (by decide) (by decide) dX6_closeOn_55 (by decide) (fun c_112 => ?_) (fun c_112 => absurd c_112 (by decide))
              refine lv_aload_n hx hb dX6_closeOn_119 rfl (lv_at hl 3 rfl) ?_
              refine lv_iconst (v := (nI 1)) hx hb dX6_closeOn_120 (by decide) ?_
              refine lv_iload_n hx hb dX6_closeOn_121 rfl (lv_at hl 2 rfl) ?_
              refine x_zne M (tgt := 129) (by omega) dX6_closeOn_122 (by decide) (fun c_113 => ?_) (fun c_113 => ?_)
              · refine lv_iconst (v := (nI 0)) hx hb dX6_closeOn_129 (by decide) ?_
                refine x_iast M hK hw 0 0 rfl rfl (by decide) (by decide) dX6_closeOn_130 (fun H locs hw => ?_)
                rw [upd_row] at hw
                have hw : xW G A s.heap [[(a, .inl (Y 0, 140, .inl (rowF (setN (mRaise (cl1 ρ) 0) 1 0))))]] H locs := hw
                refine lv_aload_n hx hb dX6_closeOn_131 rfl (lv_at hl 3 rfl) ?_
                refine lv_iconst (v := (nI 0)) hx hb dX6_closeOn_132 (by decide) ?_
                refine lv_dup2_11 hx hb dX6_closeOn_133 rfl rfl ?_
                refine x_iald M hK hw 0 0 rfl rfl (by decide) (by decide) dX6_closeOn_134 ?_
                refine x_topN (n := (mRaise (cl1 ρ) 0) 0) (congrArg nI ((setN_n (by omega)).trans rfl)) ?_
                refine lv_iconst (v := (nI 1)) hx hb dX6_closeOn_135 (by decide) ?_
                refine x_iadd M (n := 1 + (mRaise (cl1 ρ) 0) 0) dX6_closeOn_136 (by omega) ?_
                refine x_iast M hK hw 0 0 rfl rfl (by decide) (by decide) dX6_closeOn_137 (fun H locs hw => ?_)
                rw [upd_row] at hw
                have hw : xW G A s.heap [[(a, .inl (Y 0, 140, .inl (rowF (setN (setN (mRaise (cl1 ρ) 0) 1 0) 0 (1 + (mRaise (cl1 ρ) 0) 0)))))]] H locs := hw
                refine lv_iload_n hx hb dX6_closeOn_138 rfl (lv_at hl 2 rfl) ?_
                have hQ : clQ (cl1 ρ) = mRaise (cl1 ρ) 0 := by unfold clQ; rw [show clP (cl1 ρ) 0 = mRaise (cl1 ρ) 0 from if_pos c_9, show clP (mRaise (cl1 ρ) 0) 1 = mRaise (cl1 ρ) 0 from if_neg (Nat.not_lt.mpr c_105), show clP (mRaise (cl1 ρ) 0) 2 = mRaise (cl1 ρ) 0 from if_neg (Nat.not_lt.mpr c_111)]
                have hM : mClose ρ = setN (setN (mRaise (cl1 ρ) 0) 1 0) 0 (ρ 0 + 1) := by unfold mClose; rw [hQ, if_neg (by omega)]
                rw [show 1 + (mRaise (cl1 ρ) 0) 0 = ρ 0 + 1 by omega, ← hM] at hw
                exact hret _ _ _ (nI (scarce (cl1 ρ))) _ _ dX6_closeOn_139 hw rfl rfl ⟨rfl, rfl⟩
              refine lv_iconst (v := (nI 1)) hx hb dX6_closeOn_125 (by decide) ?_
              refine lv_goto (tgt := 130) hx hb dX6_closeOn_126 (by decide) ?_
              refine x_iast M hK hw 0 0 rfl rfl (by decide) (by decide) dX6_closeOn_130 (fun H locs hw => ?_)
              rw [upd_row] at hw
              have hw : xW G A s.heap [[(a, .inl (Y 0, 140, .inl (rowF (setN (mRaise (cl1 ρ) 0) 1 1))))]] H locs := hw
              refine lv_aload_n hx hb dX6_closeOn_131 rfl (lv_at hl 3 rfl) ?_
              refine lv_iconst (v := (nI 0)) hx hb dX6_closeOn_132 (by decide) ?_
              refine lv_dup2_11 hx hb dX6_closeOn_133 rfl rfl ?_
              refine x_iald M hK hw 0 0 rfl rfl (by decide) (by decide) dX6_closeOn_134 ?_
              refine x_topN (n := (mRaise (cl1 ρ) 0) 0) (congrArg nI ((setN_n (by omega)).trans rfl)) ?_
              refine lv_iconst (v := (nI 1)) hx hb dX6_closeOn_135 (by decide) ?_
              refine x_iadd M (n := 1 + (mRaise (cl1 ρ) 0) 0) dX6_closeOn_136 (by omega) ?_
              refine x_iast M hK hw 0 0 rfl rfl (by decide) (by decide) dX6_closeOn_137 (fun H locs hw => ?_)
              rw [upd_row] at hw
              have hw : xW G A s.heap [[(a, .inl (Y 0, 140, .inl (rowF (setN (setN (mRaise (cl1 ρ) 0) 1 1) 0 (1 + (mRaise (cl1 ρ) 0) 0)))))]] H locs := hw
              refine lv_iload_n hx hb dX6_closeOn_138 rfl (lv_at hl 2 rfl) ?_
              have hQ : clQ (cl1 ρ) = mRaise (cl1 ρ) 0 := by unfold clQ; rw [show clP (cl1 ρ) 0 = mRaise (cl1 ρ) 0 from if_pos c_9, show clP (mRaise (cl1 ρ) 0) 1 = mRaise (cl1 ρ) 0 from if_neg (Nat.not_lt.mpr c_105), show clP (mRaise (cl1 ρ) 0) 2 = mRaise (cl1 ρ) 0 from if_neg (Nat.not_lt.mpr c_111)]
              have hM : mClose ρ = setN (setN (mRaise (cl1 ρ) 0) 1 1) 0 (ρ 0 + 1) := by unfold mClose; rw [hQ, if_pos (by omega)]
              rw [show 1 + (mRaise (cl1 ρ) 0) 0 = ρ 0 + 1 by omega, ← hM] at hw
              exact hret _ _ _ (nI (scarce (cl1 ρ))) _ _ dX6_closeOn_139 hw rfl rfl ⟨rfl, rfl⟩
            refine lv_aload_n hx hb dX6_closeOn_71 rfl (lv_at hl 3 rfl) ?_
            refine lv_bipush (v := (nI 11)) hx hb dX6_closeOn_72 (by decide) ?_
            refine lv_iload_n hx hb dX6_closeOn_74 rfl (lv_at hl 0 rfl) ?_
            refine x_iadd M (n := 13) dX6_closeOn_75 rfl ?_
            refine x_iald M hK hw 0 0 rfl rfl (by decide) (by decide) dX6_closeOn_76 ?_
            refine x_topN (n := (mRaise (cl1 ρ) 0) 13) rfl ?_
            have q_114 : 1 ≤ (mRaise (cl1 ρ) 0) 13 := (hI99.pri (q := 13) (k := 2) (by decide) rfl).1
            have q_115 : (mRaise (cl1 ρ) 0) 13 ≤ 99999 := (hI99.pri (q := 13) (k := 2) (by decide) rfl).2
            refine lv_aload_n hx hb dX6_closeOn_77 rfl (lv_at hl 3 rfl) ?_
            refine lv_iconst (v := (nI 3)) hx hb dX6_closeOn_78 (by decide) ?_
            refine x_iald M hK hw 0 0 rfl rfl (by decide) (by decide) dX6_closeOn_79 ?_
            refine x_topN (n := (mRaise (cl1 ρ) 0) 3) rfl ?_
            have q_116 : 1 ≤ (mRaise (cl1 ρ) 0) 3 := (hI99.stepp).1
            have q_117 : (mRaise (cl1 ρ) 0) 3 ≤ 50 := (hI99.stepp).2
            refine x_imul M (n := ((mRaise (cl1 ρ) 0) 13) * ((mRaise (cl1 ρ) 0) 3)) dX6_closeOn_80 rfl ?_
            have q_118 : ((mRaise (cl1 ρ) 0) 13) * ((mRaise (cl1 ρ) 0) 3) ≤ 4999950 := Nat.le_trans (Nat.mul_le_mul (show (mRaise (cl1 ρ) 0) 13 ≤ 99999 by omega) (show (mRaise (cl1 ρ) 0) 3 ≤ 50 by omega)) (by decide)
            refine lv_bipush (v := (nI 100)) hx hb dX6_closeOn_81 (by decide) ?_
            refine x_idiv M (n := (((mRaise (cl1 ρ) 0) 13) * ((mRaise (cl1 ρ) 0) 3)) / 100) dX6_closeOn_83 (by omega) (by omega) (by decide) rfl ?_
            refine lv_istore_n (lv' := [(3, .int (nI ((((mRaise (cl1 ρ) 0) 13) * ((mRaise (cl1 ρ) 0) 3)) / 100))), (2, .int (nI 2)), (1, .int (nI (scarce (cl1 ρ)))), (0, .ref a)]) hx hb dX6_closeOn_84 rfl hl (by decide) rfl (fun ls hl => ?_)
            refine lv_aload_n hx hb dX6_closeOn_85 rfl (lv_at hl 3 rfl) ?_
            refine lv_bipush (v := (nI 11)) hx hb dX6_closeOn_86 (by decide) ?_
            refine lv_iload_n hx hb dX6_closeOn_88 rfl (lv_at hl 1 rfl) ?_
            refine x_iadd M (n := 13) dX6_closeOn_89 rfl ?_
            refine lv_ldc (v := (nI 99999)) hx hb M.2.2.2.1 (M.2.2.2.2 _ mw_1137) dX6_closeOn_90 ?_
            refine lv_aload_n hx hb dX6_closeOn_92 rfl (lv_at hl 3 rfl) ?_
            refine lv_bipush (v := (nI 11)) hx hb dX6_closeOn_93 (by decide) ?_
            refine lv_iload_n hx hb dX6_closeOn_95 rfl (lv_at hl 1 rfl) ?_
            refine x_iadd M (n := 13) dX6_closeOn_96 rfl ?_
            refine x_iald M hK hw 0 0 rfl rfl (by decide) (by decide) dX6_closeOn_97 ?_
            refine x_topN (n := (mRaise (cl1 ρ) 0) 13) rfl ?_
            refine lv_iload_n hx hb dX6_closeOn_98 rfl (lv_at hl 0 rfl) ?_
            refine lv_iconst (v := (nI 1)) hx hb dX6_closeOn_99 (by decide) ?_
            refine x_cge M (tgt := 107) (by omega) (by decide) dX6_closeOn_100 (by decide) (fun c_119 => ?_) (fun c_119 => ?_)
            · refine lv_iload_n hx hb dX6_closeOn_107 rfl (lv_at hl 0 rfl) ?_
              refine x_iadd M (n := (mRaise (cl1 ρ) 0) 13 + ((((mRaise (cl1 ρ) 0) 13) * ((mRaise (cl1 ρ) 0) 3)) / 100)) dX6_closeOn_108 rfl ?_
              refine x_cSI (As := [.int (nI 99999), .int (nI ((mRaise (cl1 ρ) 0) 13 + ((((mRaise (cl1 ρ) 0) 13) * ((mRaise (cl1 ρ) 0) 3)) / 100)))]) (k_X6_less l G Y 99999 ((mRaise (cl1 ρ) 0) 13 + ((((mRaise (cl1 ρ) 0) 13) * ((mRaise (cl1 ρ) 0) 3)) / 100)) (by omega) (by omega)) cw_X6_61 [] M hK hZ hw hl.1 rfl (by decide) ⟨by decide, by decide⟩ ⟨Nat.zero_le _, Nat.zero_le _⟩ rfl rfl (Nat.le_of_ble_eq_true rfl) dX6_closeOn_109 (fun r sg h_120 H locs hw => ?_)
              obtain ⟨rfl, rfl⟩ := h_120
              have hw : xW G A s.heap [[(a, .inl (Y 0, 140, .inl (rowF (mRaise (cl1 ρ) 0))))]] H locs := hw
              refine x_iast M hK hw 0 0 rfl rfl (by decide) (by decide) dX6_closeOn_112 (fun H locs hw => ?_)
              rw [upd_row] at hw
              have hw : xW G A s.heap [[(a, .inl (Y 0, 140, .inl (rowF (setN (mRaise (cl1 ρ) 0) 13 (min 99999 ((mRaise (cl1 ρ) 0) 13 + ((((mRaise (cl1 ρ) 0) 13) * ((mRaise (cl1 ρ) 0) 3)) / 100)))))))]] H locs := hw
              have hw := row_fold (i := 0) (f' := rowF (mRaise (mRaise (cl1 ρ) 0) 2)) hw rfl (fun q hq => congrArg nI (raise_row (k := 2) rfl (by omega)))
              have hw : xW G A s.heap [[(a, .inl (Y 0, 140, .inl (rowF (mRaise (mRaise (cl1 ρ) 0) 2))))]] H locs := hw
              have hI121 := Inv_raise hI99 (k := 2) (by decide)
              have := hI121.stepp
              have := hI121.n6
              have : (mRaise (mRaise (cl1 ρ) 0) 2) 5 = (mRaise (cl1 ρ) 0) 5 := raise_o (by decide)
              have : askedOf (mRaise (mRaise (cl1 ρ) 0) 2) 0 = askedOf (mRaise (cl1 ρ) 0) 0 := asked_raise (by decide)
              have : (mRaise (mRaise (cl1 ρ) 0) 2) 6 = (mRaise (cl1 ρ) 0) 6 := raise_o (by decide)
              have : askedOf (mRaise (mRaise (cl1 ρ) 0) 2) 1 = askedOf (mRaise (cl1 ρ) 0) 1 := asked_raise (by decide)
              have : askedOf (mRaise (mRaise (cl1 ρ) 0) 2) 2 = askedOf (mRaise (cl1 ρ) 0) 2 := asked_raise (by decide)
              have : (mRaise (mRaise (cl1 ρ) 0) 2) 0 = (mRaise (cl1 ρ) 0) 0 := raise_o (by decide)
              have : (mRaise (mRaise (cl1 ρ) 0) 2) 4 = (mRaise (cl1 ρ) 0) 4 := raise_o (by decide)
              have : (mRaise (mRaise (cl1 ρ) 0) 2) 5 = (mRaise (cl1 ρ) 0) 5 := raise_o (by decide)
              refine lv_iinc (v := (nI 3)) (lv' := [(2, .int (nI 3)), (3, .int (nI ((((mRaise (cl1 ρ) 0) 13) * ((mRaise (cl1 ρ) 0) 3)) / 100))), (1, .int (nI (scarce (cl1 ρ)))), (0, .ref a)]) hx hb dX6_closeOn_113 hl (k := 1) rfl (by decide) (by decide) rfl (fun ls hl => ?_)
              refine lv_goto (tgt := 53) hx hb dX6_closeOn_116 (by decide) ?_
              refine lv_iload_n hx hb dX6_closeOn_53 rfl (lv_at hl 0 rfl) ?_
              refine lv_iconst (v := (nI 3)) hx hb dX6_closeOn_54 (by decide) ?_
              refine x_cge M (tgt := 119) (by decide) (by decide) dX6_closeOn_55 (by decide) (fun c_122 => ?_) (fun c_122 => absurd c_122 (by decide))
              refine lv_aload_n hx hb dX6_closeOn_119 rfl (lv_at hl 3 rfl) ?_
              refine lv_iconst (v := (nI 1)) hx hb dX6_closeOn_120 (by decide) ?_
              refine lv_iload_n hx hb dX6_closeOn_121 rfl (lv_at hl 2 rfl) ?_
              refine x_zne M (tgt := 129) (by omega) dX6_closeOn_122 (by decide) (fun c_123 => ?_) (fun c_123 => ?_)
              · refine lv_iconst (v := (nI 0)) hx hb dX6_closeOn_129 (by decide) ?_
                refine x_iast M hK hw 0 0 rfl rfl (by decide) (by decide) dX6_closeOn_130 (fun H locs hw => ?_)
                rw [upd_row] at hw
                have hw : xW G A s.heap [[(a, .inl (Y 0, 140, .inl (rowF (setN (mRaise (mRaise (cl1 ρ) 0) 2) 1 0))))]] H locs := hw
                refine lv_aload_n hx hb dX6_closeOn_131 rfl (lv_at hl 3 rfl) ?_
                refine lv_iconst (v := (nI 0)) hx hb dX6_closeOn_132 (by decide) ?_
                refine lv_dup2_11 hx hb dX6_closeOn_133 rfl rfl ?_
                refine x_iald M hK hw 0 0 rfl rfl (by decide) (by decide) dX6_closeOn_134 ?_
                refine x_topN (n := (mRaise (mRaise (cl1 ρ) 0) 2) 0) (congrArg nI ((setN_n (by omega)).trans rfl)) ?_
                refine lv_iconst (v := (nI 1)) hx hb dX6_closeOn_135 (by decide) ?_
                refine x_iadd M (n := 1 + (mRaise (mRaise (cl1 ρ) 0) 2) 0) dX6_closeOn_136 (by omega) ?_
                refine x_iast M hK hw 0 0 rfl rfl (by decide) (by decide) dX6_closeOn_137 (fun H locs hw => ?_)
                rw [upd_row] at hw
                have hw : xW G A s.heap [[(a, .inl (Y 0, 140, .inl (rowF (setN (setN (mRaise (mRaise (cl1 ρ) 0) 2) 1 0) 0 (1 + (mRaise (mRaise (cl1 ρ) 0) 2) 0)))))]] H locs := hw
                refine lv_iload_n hx hb dX6_closeOn_138 rfl (lv_at hl 2 rfl) ?_
                have hQ : clQ (cl1 ρ) = mRaise (mRaise (cl1 ρ) 0) 2 := by unfold clQ; rw [show clP (cl1 ρ) 0 = mRaise (cl1 ρ) 0 from if_pos c_9, show clP (mRaise (cl1 ρ) 0) 1 = mRaise (cl1 ρ) 0 from if_neg (Nat.not_lt.mpr c_105), show clP (mRaise (cl1 ρ) 0) 2 = mRaise (mRaise (cl1 ρ) 0) 2 from if_pos c_111]
                have hM : mClose ρ = setN (setN (mRaise (mRaise (cl1 ρ) 0) 2) 1 0) 0 (ρ 0 + 1) := by unfold mClose; rw [hQ, if_neg (by omega)]
                rw [show 1 + (mRaise (mRaise (cl1 ρ) 0) 2) 0 = ρ 0 + 1 by omega, ← hM] at hw
                exact hret _ _ _ (nI (scarce (cl1 ρ))) _ _ dX6_closeOn_139 hw rfl rfl ⟨rfl, rfl⟩
              refine lv_iconst (v := (nI 1)) hx hb dX6_closeOn_125 (by decide) ?_
              refine lv_goto (tgt := 130) hx hb dX6_closeOn_126 (by decide) ?_
              refine x_iast M hK hw 0 0 rfl rfl (by decide) (by decide) dX6_closeOn_130 (fun H locs hw => ?_)
              rw [upd_row] at hw
              have hw : xW G A s.heap [[(a, .inl (Y 0, 140, .inl (rowF (setN (mRaise (mRaise (cl1 ρ) 0) 2) 1 1))))]] H locs := hw
              refine lv_aload_n hx hb dX6_closeOn_131 rfl (lv_at hl 3 rfl) ?_
              refine lv_iconst (v := (nI 0)) hx hb dX6_closeOn_132 (by decide) ?_
              refine lv_dup2_11 hx hb dX6_closeOn_133 rfl rfl ?_
              refine x_iald M hK hw 0 0 rfl rfl (by decide) (by decide) dX6_closeOn_134 ?_
              refine x_topN (n := (mRaise (mRaise (cl1 ρ) 0) 2) 0) (congrArg nI ((setN_n (by omega)).trans rfl)) ?_
              refine lv_iconst (v := (nI 1)) hx hb dX6_closeOn_135 (by decide) ?_
              refine x_iadd M (n := 1 + (mRaise (mRaise (cl1 ρ) 0) 2) 0) dX6_closeOn_136 (by omega) ?_
              refine x_iast M hK hw 0 0 rfl rfl (by decide) (by decide) dX6_closeOn_137 (fun H locs hw => ?_)
              rw [upd_row] at hw
              have hw : xW G A s.heap [[(a, .inl (Y 0, 140, .inl (rowF (setN (setN (mRaise (mRaise (cl1 ρ) 0) 2) 1 1) 0 (1 + (mRaise (mRaise (cl1 ρ) 0) 2) 0)))))]] H locs := hw
              refine lv_iload_n hx hb dX6_closeOn_138 rfl (lv_at hl 2 rfl) ?_
              have hQ : clQ (cl1 ρ) = mRaise (mRaise (cl1 ρ) 0) 2 := by unfold clQ; rw [show clP (cl1 ρ) 0 = mRaise (cl1 ρ) 0 from if_pos c_9, show clP (mRaise (cl1 ρ) 0) 1 = mRaise (cl1 ρ) 0 from if_neg (Nat.not_lt.mpr c_105), show clP (mRaise (cl1 ρ) 0) 2 = mRaise (mRaise (cl1 ρ) 0) 2 from if_pos c_111]
              have hM : mClose ρ = setN (setN (mRaise (mRaise (cl1 ρ) 0) 2) 1 1) 0 (ρ 0 + 1) := by unfold mClose; rw [hQ, if_pos (by omega)]
              rw [show 1 + (mRaise (mRaise (cl1 ρ) 0) 2) 0 = ρ 0 + 1 by omega, ← hM] at hw
              exact hret _ _ _ (nI (scarce (cl1 ρ))) _ _ dX6_closeOn_139 hw rfl rfl ⟨rfl, rfl⟩
            refine lv_iconst (v := (nI 1)) hx hb dX6_closeOn_103 (by decide) ?_
            refine lv_goto (tgt := 108) hx hb dX6_closeOn_104 (by decide) ?_
            refine x_iadd M (n := 1 + (mRaise (cl1 ρ) 0) 13) dX6_closeOn_108 (by omega) ?_
            refine x_cSI (As := [.int (nI 99999), .int (nI (1 + (mRaise (cl1 ρ) 0) 13))]) (k_X6_less l G Y 99999 (1 + (mRaise (cl1 ρ) 0) 13) (by omega) (by omega)) cw_X6_61 [] M hK hZ hw hl.1 rfl (by decide) ⟨by decide, by decide⟩ ⟨Nat.zero_le _, Nat.zero_le _⟩ rfl rfl (Nat.le_of_ble_eq_true rfl) dX6_closeOn_109 (fun r sg h_124 H locs hw => ?_)
            obtain ⟨rfl, rfl⟩ := h_124
            have hw : xW G A s.heap [[(a, .inl (Y 0, 140, .inl (rowF (mRaise (cl1 ρ) 0))))]] H locs := hw
            refine x_iast M hK hw 0 0 rfl rfl (by decide) (by decide) dX6_closeOn_112 (fun H locs hw => ?_)
            rw [upd_row] at hw
            have hw : xW G A s.heap [[(a, .inl (Y 0, 140, .inl (rowF (setN (mRaise (cl1 ρ) 0) 13 (min 99999 (1 + (mRaise (cl1 ρ) 0) 13))))))]] H locs := hw
            have hw := row_fold (i := 0) (f' := rowF (mRaise (mRaise (cl1 ρ) 0) 2)) hw rfl (fun q hq => congrArg nI (raise_row (k := 2) rfl (by omega)))
            have hw : xW G A s.heap [[(a, .inl (Y 0, 140, .inl (rowF (mRaise (mRaise (cl1 ρ) 0) 2))))]] H locs := hw
            have hI125 := Inv_raise hI99 (k := 2) (by decide)
            have := hI125.stepp
            have := hI125.n6
            have : (mRaise (mRaise (cl1 ρ) 0) 2) 5 = (mRaise (cl1 ρ) 0) 5 := raise_o (by decide)
            have : askedOf (mRaise (mRaise (cl1 ρ) 0) 2) 0 = askedOf (mRaise (cl1 ρ) 0) 0 := asked_raise (by decide)
            have : (mRaise (mRaise (cl1 ρ) 0) 2) 6 = (mRaise (cl1 ρ) 0) 6 := raise_o (by decide)
            have : askedOf (mRaise (mRaise (cl1 ρ) 0) 2) 1 = askedOf (mRaise (cl1 ρ) 0) 1 := asked_raise (by decide)
            have : askedOf (mRaise (mRaise (cl1 ρ) 0) 2) 2 = askedOf (mRaise (cl1 ρ) 0) 2 := asked_raise (by decide)
            have : (mRaise (mRaise (cl1 ρ) 0) 2) 0 = (mRaise (cl1 ρ) 0) 0 := raise_o (by decide)
            have : (mRaise (mRaise (cl1 ρ) 0) 2) 4 = (mRaise (cl1 ρ) 0) 4 := raise_o (by decide)
            have : (mRaise (mRaise (cl1 ρ) 0) 2) 5 = (mRaise (cl1 ρ) 0) 5 := raise_o (by decide)
            refine lv_iinc (v := (nI 3)) (lv' := [(2, .int (nI 3)), (3, .int (nI ((((mRaise (cl1 ρ) 0) 13) * ((mRaise (cl1 ρ) 0) 3)) / 100))), (1, .int (nI (scarce (cl1 ρ)))), (0, .ref a)]) hx hb dX6_closeOn_113 hl (k := 1) rfl (by decide) (by decide) rfl (fun ls hl => ?_)
            refine lv_goto (tgt := 53) hx hb dX6_closeOn_116 (by decide) ?_
            refine lv_iload_n hx hb dX6_closeOn_53 rfl (lv_at hl 0 rfl) ?_
            refine lv_iconst (v := (nI 3)) hx hb dX6_closeOn_54 (by decide) ?_
            refine x_cge M (tgt := 119) (by decide) (by decide) dX6_closeOn_55 (by decide) (fun c_126 => ?_) (fun c_126 => absurd c_126 (by decide))
            refine lv_aload_n hx hb dX6_closeOn_119 rfl (lv_at hl 3 rfl) ?_
            refine lv_iconst (v := (nI 1)) hx hb dX6_closeOn_120 (by decide) ?_
            refine lv_iload_n hx hb dX6_closeOn_121 rfl (lv_at hl 2 rfl) ?_
            refine x_zne M (tgt := 129) (by omega) dX6_closeOn_122 (by decide) (fun c_127 => ?_) (fun c_127 => ?_)
            · refine lv_iconst (v := (nI 0)) hx hb dX6_closeOn_129 (by decide) ?_
              refine x_iast M hK hw 0 0 rfl rfl (by decide) (by decide) dX6_closeOn_130 (fun H locs hw => ?_)
              rw [upd_row] at hw
              have hw : xW G A s.heap [[(a, .inl (Y 0, 140, .inl (rowF (setN (mRaise (mRaise (cl1 ρ) 0) 2) 1 0))))]] H locs := hw
              refine lv_aload_n hx hb dX6_closeOn_131 rfl (lv_at hl 3 rfl) ?_
              refine lv_iconst (v := (nI 0)) hx hb dX6_closeOn_132 (by decide) ?_
              refine lv_dup2_11 hx hb dX6_closeOn_133 rfl rfl ?_
              refine x_iald M hK hw 0 0 rfl rfl (by decide) (by decide) dX6_closeOn_134 ?_
              refine x_topN (n := (mRaise (mRaise (cl1 ρ) 0) 2) 0) (congrArg nI ((setN_n (by omega)).trans rfl)) ?_
              refine lv_iconst (v := (nI 1)) hx hb dX6_closeOn_135 (by decide) ?_
              refine x_iadd M (n := 1 + (mRaise (mRaise (cl1 ρ) 0) 2) 0) dX6_closeOn_136 (by omega) ?_
              refine x_iast M hK hw 0 0 rfl rfl (by decide) (by decide) dX6_closeOn_137 (fun H locs hw => ?_)
              rw [upd_row] at hw
              have hw : xW G A s.heap [[(a, .inl (Y 0, 140, .inl (rowF (setN (setN (mRaise (mRaise (cl1 ρ) 0) 2) 1 0) 0 (1 + (mRaise (mRaise (cl1 ρ) 0) 2) 0)))))]] H locs := hw
              refine lv_iload_n hx hb dX6_closeOn_138 rfl (lv_at hl 2 rfl) ?_
              have hQ : clQ (cl1 ρ) = mRaise (mRaise (cl1 ρ) 0) 2 := by unfold clQ; rw [show clP (cl1 ρ) 0 = mRaise (cl1 ρ) 0 from if_pos c_9, show clP (mRaise (cl1 ρ) 0) 1 = mRaise (cl1 ρ) 0 from if_neg (Nat.not_lt.mpr c_105), show clP (mRaise (cl1 ρ) 0) 2 = mRaise (mRaise (cl1 ρ) 0) 2 from if_pos c_111]
              have hM : mClose ρ = setN (setN (mRaise (mRaise (cl1 ρ) 0) 2) 1 0) 0 (ρ 0 + 1) := by unfold mClose; rw [hQ, if_neg (by omega)]
              rw [show 1 + (mRaise (mRaise (cl1 ρ) 0) 2) 0 = ρ 0 + 1 by omega, ← hM] at hw
              exact hret _ _ _ (nI (scarce (cl1 ρ))) _ _ dX6_closeOn_139 hw rfl rfl ⟨rfl, rfl⟩
            refine lv_iconst (v := (nI 1)) hx hb dX6_closeOn_125 (by decide) ?_
            refine lv_goto (tgt := 130) hx hb dX6_closeOn_126 (by decide) ?_
            refine x_iast M hK hw 0 0 rfl rfl (by decide) (by decide) dX6_closeOn_130 (fun H locs hw => ?_)
            rw [upd_row] at hw
            have hw : xW G A s.heap [[(a, .inl (Y 0, 140, .inl (rowF (setN (mRaise (mRaise (cl1 ρ) 0) 2) 1 1))))]] H locs := hw
            refine lv_aload_n hx hb dX6_closeOn_131 rfl (lv_at hl 3 rfl) ?_
            refine lv_iconst (v := (nI 0)) hx hb dX6_closeOn_132 (by decide) ?_
            refine lv_dup2_11 hx hb dX6_closeOn_133 rfl rfl ?_
            refine x_iald M hK hw 0 0 rfl rfl (by decide) (by decide) dX6_closeOn_134 ?_
            refine x_topN (n := (mRaise (mRaise (cl1 ρ) 0) 2) 0) (congrArg nI ((setN_n (by omega)).trans rfl)) ?_
            refine lv_iconst (v := (nI 1)) hx hb dX6_closeOn_135 (by decide) ?_
            refine x_iadd M (n := 1 + (mRaise (mRaise (cl1 ρ) 0) 2) 0) dX6_closeOn_136 (by omega) ?_
            refine x_iast M hK hw 0 0 rfl rfl (by decide) (by decide) dX6_closeOn_137 (fun H locs hw => ?_)
            rw [upd_row] at hw
            have hw : xW G A s.heap [[(a, .inl (Y 0, 140, .inl (rowF (setN (setN (mRaise (mRaise (cl1 ρ) 0) 2) 1 1) 0 (1 + (mRaise (mRaise (cl1 ρ) 0) 2) 0)))))]] H locs := hw
            refine lv_iload_n hx hb dX6_closeOn_138 rfl (lv_at hl 2 rfl) ?_
            have hQ : clQ (cl1 ρ) = mRaise (mRaise (cl1 ρ) 0) 2 := by unfold clQ; rw [show clP (cl1 ρ) 0 = mRaise (cl1 ρ) 0 from if_pos c_9, show clP (mRaise (cl1 ρ) 0) 1 = mRaise (cl1 ρ) 0 from if_neg (Nat.not_lt.mpr c_105), show clP (mRaise (cl1 ρ) 0) 2 = mRaise (mRaise (cl1 ρ) 0) 2 from if_pos c_111]
            have hM : mClose ρ = setN (setN (mRaise (mRaise (cl1 ρ) 0) 2) 1 1) 0 (ρ 0 + 1) := by unfold mClose; rw [hQ, if_pos (by omega)]
            rw [show 1 + (mRaise (mRaise (cl1 ρ) 0) 2) 0 = ρ 0 + 1 by omega, ← hM] at hw
            exact hret _ _ _ (nI (scarce (cl1 ρ))) _ _ dX6_closeOn_139 hw rfl rfl ⟨rfl, rfl⟩
          refine lv_aload_n hx hb dX6_closeOn_71 rfl (lv_at hl 3 rfl) ?_
          refine lv_bipush (v := (nI 11)) hx hb dX6_closeOn_72 (by decide) ?_
          refine lv_iload_n hx hb dX6_closeOn_74 rfl (lv_at hl 0 rfl) ?_
          refine x_iadd M (n := 12) dX6_closeOn_75 rfl ?_
          refine x_iald M hK hw 0 0 rfl rfl (by decide) (by decide) dX6_closeOn_76 ?_
          refine x_topN (n := (mRaise (cl1 ρ) 0) 12) rfl ?_
          have q_128 : 1 ≤ (mRaise (cl1 ρ) 0) 12 := (hI99.pri (q := 12) (k := 1) (by decide) rfl).1
          have q_129 : (mRaise (cl1 ρ) 0) 12 ≤ 99999 := (hI99.pri (q := 12) (k := 1) (by decide) rfl).2
          refine lv_aload_n hx hb dX6_closeOn_77 rfl (lv_at hl 3 rfl) ?_
          refine lv_iconst (v := (nI 3)) hx hb dX6_closeOn_78 (by decide) ?_
          refine x_iald M hK hw 0 0 rfl rfl (by decide) (by decide) dX6_closeOn_79 ?_
          refine x_topN (n := (mRaise (cl1 ρ) 0) 3) rfl ?_
          have q_130 : 1 ≤ (mRaise (cl1 ρ) 0) 3 := (hI99.stepp).1
          have q_131 : (mRaise (cl1 ρ) 0) 3 ≤ 50 := (hI99.stepp).2
          refine x_imul M (n := ((mRaise (cl1 ρ) 0) 12) * ((mRaise (cl1 ρ) 0) 3)) dX6_closeOn_80 rfl ?_
          have q_132 : ((mRaise (cl1 ρ) 0) 12) * ((mRaise (cl1 ρ) 0) 3) ≤ 4999950 := Nat.le_trans (Nat.mul_le_mul (show (mRaise (cl1 ρ) 0) 12 ≤ 99999 by omega) (show (mRaise (cl1 ρ) 0) 3 ≤ 50 by omega)) (by decide)
          refine lv_bipush (v := (nI 100)) hx hb dX6_closeOn_81 (by decide) ?_
          refine x_idiv M (n := (((mRaise (cl1 ρ) 0) 12) * ((mRaise (cl1 ρ) 0) 3)) / 100) dX6_closeOn_83 (by omega) (by omega) (by decide) rfl ?_
          refine lv_istore_n (lv' := [(3, .int (nI ((((mRaise (cl1 ρ) 0) 12) * ((mRaise (cl1 ρ) 0) 3)) / 100))), (2, .int (nI 1)), (1, .int (nI (scarce (cl1 ρ)))), (0, .ref a)]) hx hb dX6_closeOn_84 rfl hl (by decide) rfl (fun ls hl => ?_)
          refine lv_aload_n hx hb dX6_closeOn_85 rfl (lv_at hl 3 rfl) ?_
          refine lv_bipush (v := (nI 11)) hx hb dX6_closeOn_86 (by decide) ?_
          refine lv_iload_n hx hb dX6_closeOn_88 rfl (lv_at hl 1 rfl) ?_
          refine x_iadd M (n := 12) dX6_closeOn_89 rfl ?_
          refine lv_ldc (v := (nI 99999)) hx hb M.2.2.2.1 (M.2.2.2.2 _ mw_1137) dX6_closeOn_90 ?_
          refine lv_aload_n hx hb dX6_closeOn_92 rfl (lv_at hl 3 rfl) ?_
          refine lv_bipush (v := (nI 11)) hx hb dX6_closeOn_93 (by decide) ?_
          refine lv_iload_n hx hb dX6_closeOn_95 rfl (lv_at hl 1 rfl) ?_
          refine x_iadd M (n := 12) dX6_closeOn_96 rfl ?_
          refine x_iald M hK hw 0 0 rfl rfl (by decide) (by decide) dX6_closeOn_97 ?_
          refine x_topN (n := (mRaise (cl1 ρ) 0) 12) rfl ?_
          refine lv_iload_n hx hb dX6_closeOn_98 rfl (lv_at hl 0 rfl) ?_
          refine lv_iconst (v := (nI 1)) hx hb dX6_closeOn_99 (by decide) ?_
          refine x_cge M (tgt := 107) (by omega) (by decide) dX6_closeOn_100 (by decide) (fun c_133 => ?_) (fun c_133 => ?_)
          · refine lv_iload_n hx hb dX6_closeOn_107 rfl (lv_at hl 0 rfl) ?_
            refine x_iadd M (n := (mRaise (cl1 ρ) 0) 12 + ((((mRaise (cl1 ρ) 0) 12) * ((mRaise (cl1 ρ) 0) 3)) / 100)) dX6_closeOn_108 rfl ?_
            refine x_cSI (As := [.int (nI 99999), .int (nI ((mRaise (cl1 ρ) 0) 12 + ((((mRaise (cl1 ρ) 0) 12) * ((mRaise (cl1 ρ) 0) 3)) / 100)))]) (k_X6_less l G Y 99999 ((mRaise (cl1 ρ) 0) 12 + ((((mRaise (cl1 ρ) 0) 12) * ((mRaise (cl1 ρ) 0) 3)) / 100)) (by omega) (by omega)) cw_X6_61 [] M hK hZ hw hl.1 rfl (by decide) ⟨by decide, by decide⟩ ⟨Nat.zero_le _, Nat.zero_le _⟩ rfl rfl (Nat.le_of_ble_eq_true rfl) dX6_closeOn_109 (fun r sg h_134 H locs hw => ?_)
            obtain ⟨rfl, rfl⟩ := h_134
            have hw : xW G A s.heap [[(a, .inl (Y 0, 140, .inl (rowF (mRaise (cl1 ρ) 0))))]] H locs := hw
            refine x_iast M hK hw 0 0 rfl rfl (by decide) (by decide) dX6_closeOn_112 (fun H locs hw => ?_)
            rw [upd_row] at hw
            have hw : xW G A s.heap [[(a, .inl (Y 0, 140, .inl (rowF (setN (mRaise (cl1 ρ) 0) 12 (min 99999 ((mRaise (cl1 ρ) 0) 12 + ((((mRaise (cl1 ρ) 0) 12) * ((mRaise (cl1 ρ) 0) 3)) / 100)))))))]] H locs := hw
            have hw := row_fold (i := 0) (f' := rowF (mRaise (mRaise (cl1 ρ) 0) 1)) hw rfl (fun q hq => congrArg nI (raise_row (k := 1) rfl (by omega)))
            have hw : xW G A s.heap [[(a, .inl (Y 0, 140, .inl (rowF (mRaise (mRaise (cl1 ρ) 0) 1))))]] H locs := hw
            have hI135 := Inv_raise hI99 (k := 1) (by decide)
            have := hI135.stepp
            have := hI135.n6
            have : (mRaise (mRaise (cl1 ρ) 0) 1) 5 = (mRaise (cl1 ρ) 0) 5 := raise_o (by decide)
            have : askedOf (mRaise (mRaise (cl1 ρ) 0) 1) 0 = askedOf (mRaise (cl1 ρ) 0) 0 := asked_raise (by decide)
            have : askedOf (mRaise (mRaise (cl1 ρ) 0) 1) 1 = askedOf (mRaise (cl1 ρ) 0) 1 := asked_raise (by decide)
            have : (mRaise (mRaise (cl1 ρ) 0) 1) 7 = (mRaise (cl1 ρ) 0) 7 := raise_o (by decide)
            have : askedOf (mRaise (mRaise (cl1 ρ) 0) 1) 2 = askedOf (mRaise (cl1 ρ) 0) 2 := asked_raise (by decide)
            have : (mRaise (mRaise (cl1 ρ) 0) 1) 0 = (mRaise (cl1 ρ) 0) 0 := raise_o (by decide)
            have : (mRaise (mRaise (cl1 ρ) 0) 1) 4 = (mRaise (cl1 ρ) 0) 4 := raise_o (by decide)
            have : (mRaise (mRaise (cl1 ρ) 0) 1) 5 = (mRaise (cl1 ρ) 0) 5 := raise_o (by decide)
            refine lv_iinc (v := (nI 2)) (lv' := [(2, .int (nI 2)), (3, .int (nI ((((mRaise (cl1 ρ) 0) 12) * ((mRaise (cl1 ρ) 0) 3)) / 100))), (1, .int (nI (scarce (cl1 ρ)))), (0, .ref a)]) hx hb dX6_closeOn_113 hl (k := 1) rfl (by decide) (by decide) rfl (fun ls hl => ?_)
            refine lv_goto (tgt := 53) hx hb dX6_closeOn_116 (by decide) ?_
            refine lv_iload_n hx hb dX6_closeOn_53 rfl (lv_at hl 0 rfl) ?_
            refine lv_iconst (v := (nI 3)) hx hb dX6_closeOn_54 (by decide) ?_
            refine x_cge M (tgt := 119) (by decide) (by decide) dX6_closeOn_55 (by decide) (fun c_136 => absurd c_136 (by decide)) (fun c_136 => ?_)
            refine lv_aload_n hx hb dX6_closeOn_58 rfl (lv_at hl 3 rfl) ?_
            refine lv_iload_n hx hb dX6_closeOn_59 rfl (lv_at hl 0 rfl) ?_
            refine x_cSI (As := [.ref a, .int (nI 2)]) (k_X6_asked l G Y a 2 (mRaise (mRaise (cl1 ρ) 0) 1) (hI135) (by omega)) cw_X6_53 [0] M hK hZ hw hl.1 rfl (by decide) ⟨by decide, by decide⟩ ⟨Nat.zero_le _, Nat.zero_le _⟩ rfl rfl (Nat.le_of_ble_eq_true rfl) dX6_closeOn_60 (fun r sg h_137 H locs hw => ?_)
            obtain ⟨rfl, rfl⟩ := h_137
            have hw : xW G A s.heap [[(a, .inl (Y 0, 140, .inl (rowF (mRaise (mRaise (cl1 ρ) 0) 1))))]] H locs := hw
            have q_138 : askedOf (mRaise (mRaise (cl1 ρ) 0) 1) 2 ≤ 54 := askedOf_le hI135 (by omega)
            refine lv_aload_n hx hb dX6_closeOn_63 rfl (lv_at hl 3 rfl) ?_
            refine lv_iconst (v := (nI 5)) hx hb dX6_closeOn_64 (by decide) ?_
            refine lv_iload_n hx hb dX6_closeOn_65 rfl (lv_at hl 0 rfl) ?_
            refine x_iadd M (n := 7) dX6_closeOn_66 rfl ?_
            refine x_iald M hK hw 0 0 rfl rfl (by decide) (by decide) dX6_closeOn_67 ?_
            refine x_topN (n := (mRaise (mRaise (cl1 ρ) 0) 1) 7) rfl ?_
            have q_139 : 1 ≤ (mRaise (mRaise (cl1 ρ) 0) 1) 7 := (hI135.sup (q := 7) (k := 2) (by decide) rfl).1
            have q_140 : (mRaise (mRaise (cl1 ρ) 0) 1) 7 ≤ 9 := (hI135.sup (q := 7) (k := 2) (by decide) rfl).2
            refine x_cle M (tgt := 113) (by omega) (by omega) dX6_closeOn_68 (by decide) (fun c_141 => ?_) (fun c_141 => ?_)
            · refine lv_iinc (v := (nI 3)) (lv' := [(2, .int (nI 3)), (3, .int (nI ((((mRaise (cl1 ρ) 0) 12) * ((mRaise (cl1 ρ) 0) 3)) / 100))), (1, .int (nI (scarce (cl1 ρ)))), (0, .ref a)]) hx hb dX6_closeOn_113 hl (k := 0) rfl (by decide) (by decide) rfl (fun ls hl => ?_)
              refine lv_goto (tgt := 53) hx hb dX6_closeOn_116 (by decide) ?_
              refine lv_iload_n hx hb dX6_closeOn_53 rfl (lv_at hl 0 rfl) ?_
              refine lv_iconst (v := (nI 3)) hx hb dX6_closeOn_54 (by decide) ?_
              refine x_cge M (tgt := 119) (by decide) (by decide) dX6_closeOn_55 (by decide) (fun c_142 => ?_) (fun c_142 => absurd c_142 (by decide))
              refine lv_aload_n hx hb dX6_closeOn_119 rfl (lv_at hl 3 rfl) ?_
              refine lv_iconst (v := (nI 1)) hx hb dX6_closeOn_120 (by decide) ?_
              refine lv_iload_n hx hb dX6_closeOn_121 rfl (lv_at hl 2 rfl) ?_
              refine x_zne M (tgt := 129) (by omega) dX6_closeOn_122 (by decide) (fun c_143 => ?_) (fun c_143 => ?_)
              · refine lv_iconst (v := (nI 0)) hx hb dX6_closeOn_129 (by decide) ?_
                refine x_iast M hK hw 0 0 rfl rfl (by decide) (by decide) dX6_closeOn_130 (fun H locs hw => ?_)
                rw [upd_row] at hw
                have hw : xW G A s.heap [[(a, .inl (Y 0, 140, .inl (rowF (setN (mRaise (mRaise (cl1 ρ) 0) 1) 1 0))))]] H locs := hw
                refine lv_aload_n hx hb dX6_closeOn_131 rfl (lv_at hl 3 rfl) ?_
                refine lv_iconst (v := (nI 0)) hx hb dX6_closeOn_132 (by decide) ?_
                refine lv_dup2_11 hx hb dX6_closeOn_133 rfl rfl ?_
                refine x_iald M hK hw 0 0 rfl rfl (by decide) (by decide) dX6_closeOn_134 ?_
                refine x_topN (n := (mRaise (mRaise (cl1 ρ) 0) 1) 0) (congrArg nI ((setN_n (by omega)).trans rfl)) ?_
                refine lv_iconst (v := (nI 1)) hx hb dX6_closeOn_135 (by decide) ?_
                refine x_iadd M (n := 1 + (mRaise (mRaise (cl1 ρ) 0) 1) 0) dX6_closeOn_136 (by omega) ?_
                refine x_iast M hK hw 0 0 rfl rfl (by decide) (by decide) dX6_closeOn_137 (fun H locs hw => ?_)
                rw [upd_row] at hw
                have hw : xW G A s.heap [[(a, .inl (Y 0, 140, .inl (rowF (setN (setN (mRaise (mRaise (cl1 ρ) 0) 1) 1 0) 0 (1 + (mRaise (mRaise (cl1 ρ) 0) 1) 0)))))]] H locs := hw
                refine lv_iload_n hx hb dX6_closeOn_138 rfl (lv_at hl 2 rfl) ?_
                have hQ : clQ (cl1 ρ) = mRaise (mRaise (cl1 ρ) 0) 1 := by unfold clQ; rw [show clP (cl1 ρ) 0 = mRaise (cl1 ρ) 0 from if_pos c_9, show clP (mRaise (cl1 ρ) 0) 1 = mRaise (mRaise (cl1 ρ) 0) 1 from if_pos c_105, show clP (mRaise (mRaise (cl1 ρ) 0) 1) 2 = mRaise (mRaise (cl1 ρ) 0) 1 from if_neg (Nat.not_lt.mpr c_141)]
                have hM : mClose ρ = setN (setN (mRaise (mRaise (cl1 ρ) 0) 1) 1 0) 0 (ρ 0 + 1) := by unfold mClose; rw [hQ, if_neg (by omega)]
                rw [show 1 + (mRaise (mRaise (cl1 ρ) 0) 1) 0 = ρ 0 + 1 by omega, ← hM] at hw
                exact hret _ _ _ (nI (scarce (cl1 ρ))) _ _ dX6_closeOn_139 hw rfl rfl ⟨rfl, rfl⟩
              refine lv_iconst (v := (nI 1)) hx hb dX6_closeOn_125 (by decide) ?_
              refine lv_goto (tgt := 130) hx hb dX6_closeOn_126 (by decide) ?_
              refine x_iast M hK hw 0 0 rfl rfl (by decide) (by decide) dX6_closeOn_130 (fun H locs hw => ?_)
              rw [upd_row] at hw
              have hw : xW G A s.heap [[(a, .inl (Y 0, 140, .inl (rowF (setN (mRaise (mRaise (cl1 ρ) 0) 1) 1 1))))]] H locs := hw
              refine lv_aload_n hx hb dX6_closeOn_131 rfl (lv_at hl 3 rfl) ?_
              refine lv_iconst (v := (nI 0)) hx hb dX6_closeOn_132 (by decide) ?_
              refine lv_dup2_11 hx hb dX6_closeOn_133 rfl rfl ?_
              refine x_iald M hK hw 0 0 rfl rfl (by decide) (by decide) dX6_closeOn_134 ?_
              refine x_topN (n := (mRaise (mRaise (cl1 ρ) 0) 1) 0) (congrArg nI ((setN_n (by omega)).trans rfl)) ?_
              refine lv_iconst (v := (nI 1)) hx hb dX6_closeOn_135 (by decide) ?_
              refine x_iadd M (n := 1 + (mRaise (mRaise (cl1 ρ) 0) 1) 0) dX6_closeOn_136 (by omega) ?_
              refine x_iast M hK hw 0 0 rfl rfl (by decide) (by decide) dX6_closeOn_137 (fun H locs hw => ?_)
              rw [upd_row] at hw
              have hw : xW G A s.heap [[(a, .inl (Y 0, 140, .inl (rowF (setN (setN (mRaise (mRaise (cl1 ρ) 0) 1) 1 1) 0 (1 + (mRaise (mRaise (cl1 ρ) 0) 1) 0)))))]] H locs := hw
              refine lv_iload_n hx hb dX6_closeOn_138 rfl (lv_at hl 2 rfl) ?_
              have hQ : clQ (cl1 ρ) = mRaise (mRaise (cl1 ρ) 0) 1 := by unfold clQ; rw [show clP (cl1 ρ) 0 = mRaise (cl1 ρ) 0 from if_pos c_9, show clP (mRaise (cl1 ρ) 0) 1 = mRaise (mRaise (cl1 ρ) 0) 1 from if_pos c_105, show clP (mRaise (mRaise (cl1 ρ) 0) 1) 2 = mRaise (mRaise (cl1 ρ) 0) 1 from if_neg (Nat.not_lt.mpr c_141)]
              have hM : mClose ρ = setN (setN (mRaise (mRaise (cl1 ρ) 0) 1) 1 1) 0 (ρ 0 + 1) := by unfold mClose; rw [hQ, if_pos (by omega)]
              rw [show 1 + (mRaise (mRaise (cl1 ρ) 0) 1) 0 = ρ 0 + 1 by omega, ← hM] at hw
              exact hret _ _ _ (nI (scarce (cl1 ρ))) _ _ dX6_closeOn_139 hw rfl rfl ⟨rfl, rfl⟩
            refine lv_aload_n hx hb dX6_closeOn_71 rfl (lv_at hl 3 rfl) ?_
            refine lv_bipush (v := (nI 11)) hx hb dX6_closeOn_72 (by decide) ?_
            refine lv_iload_n hx hb dX6_closeOn_74 rfl (lv_at hl 0 rfl) ?_
            refine x_iadd M (n := 13) dX6_closeOn_75 rfl ?_
            refine x_iald M hK hw 0 0 rfl rfl (by decide) (by decide) dX6_closeOn_76 ?_
            refine x_topN (n := (mRaise (mRaise (cl1 ρ) 0) 1) 13) rfl ?_
            have q_144 : 1 ≤ (mRaise (mRaise (cl1 ρ) 0) 1) 13 := (hI135.pri (q := 13) (k := 2) (by decide) rfl).1
            have q_145 : (mRaise (mRaise (cl1 ρ) 0) 1) 13 ≤ 99999 := (hI135.pri (q := 13) (k := 2) (by decide) rfl).2
            refine lv_aload_n hx hb dX6_closeOn_77 rfl (lv_at hl 3 rfl) ?_
            refine lv_iconst (v := (nI 3)) hx hb dX6_closeOn_78 (by decide) ?_
            refine x_iald M hK hw 0 0 rfl rfl (by decide) (by decide) dX6_closeOn_79 ?_
            refine x_topN (n := (mRaise (mRaise (cl1 ρ) 0) 1) 3) rfl ?_
            have q_146 : 1 ≤ (mRaise (mRaise (cl1 ρ) 0) 1) 3 := (hI135.stepp).1
            have q_147 : (mRaise (mRaise (cl1 ρ) 0) 1) 3 ≤ 50 := (hI135.stepp).2
            refine x_imul M (n := ((mRaise (mRaise (cl1 ρ) 0) 1) 13) * ((mRaise (mRaise (cl1 ρ) 0) 1) 3)) dX6_closeOn_80 rfl ?_
            have q_148 : ((mRaise (mRaise (cl1 ρ) 0) 1) 13) * ((mRaise (mRaise (cl1 ρ) 0) 1) 3) ≤ 4999950 := Nat.le_trans (Nat.mul_le_mul (show (mRaise (mRaise (cl1 ρ) 0) 1) 13 ≤ 99999 by omega) (show (mRaise (mRaise (cl1 ρ) 0) 1) 3 ≤ 50 by omega)) (by decide)
            refine lv_bipush (v := (nI 100)) hx hb dX6_closeOn_81 (by decide) ?_
            refine x_idiv M (n := (((mRaise (mRaise (cl1 ρ) 0) 1) 13) * ((mRaise (mRaise (cl1 ρ) 0) 1) 3)) / 100) dX6_closeOn_83 (by omega) (by omega) (by decide) rfl ?_
            refine lv_istore_n (lv' := [(3, .int (nI ((((mRaise (mRaise (cl1 ρ) 0) 1) 13) * ((mRaise (mRaise (cl1 ρ) 0) 1) 3)) / 100))), (2, .int (nI 2)), (1, .int (nI (scarce (cl1 ρ)))), (0, .ref a)]) hx hb dX6_closeOn_84 rfl hl (by decide) rfl (fun ls hl => ?_)
            refine lv_aload_n hx hb dX6_closeOn_85 rfl (lv_at hl 3 rfl) ?_
            refine lv_bipush (v := (nI 11)) hx hb dX6_closeOn_86 (by decide) ?_
            refine lv_iload_n hx hb dX6_closeOn_88 rfl (lv_at hl 1 rfl) ?_
            refine x_iadd M (n := 13) dX6_closeOn_89 rfl ?_
            refine lv_ldc (v := (nI 99999)) hx hb M.2.2.2.1 (M.2.2.2.2 _ mw_1137) dX6_closeOn_90 ?_
            refine lv_aload_n hx hb dX6_closeOn_92 rfl (lv_at hl 3 rfl) ?_
            refine lv_bipush (v := (nI 11)) hx hb dX6_closeOn_93 (by decide) ?_
            refine lv_iload_n hx hb dX6_closeOn_95 rfl (lv_at hl 1 rfl) ?_
            refine x_iadd M (n := 13) dX6_closeOn_96 rfl ?_
            refine x_iald M hK hw 0 0 rfl rfl (by decide) (by decide) dX6_closeOn_97 ?_
            refine x_topN (n := (mRaise (mRaise (cl1 ρ) 0) 1) 13) rfl ?_
            refine lv_iload_n hx hb dX6_closeOn_98 rfl (lv_at hl 0 rfl) ?_
            refine lv_iconst (v := (nI 1)) hx hb dX6_closeOn_99 (by decide) ?_
            refine x_cge M (tgt := 107) (by omega) (by decide) dX6_closeOn_100 (by decide) (fun c_149 => ?_) (fun c_149 => ?_)
            · refine lv_iload_n hx hb dX6_closeOn_107 rfl (lv_at hl 0 rfl) ?_
              refine x_iadd M (n := (mRaise (mRaise (cl1 ρ) 0) 1) 13 + ((((mRaise (mRaise (cl1 ρ) 0) 1) 13) * ((mRaise (mRaise (cl1 ρ) 0) 1) 3)) / 100)) dX6_closeOn_108 rfl ?_
              refine x_cSI (As := [.int (nI 99999), .int (nI ((mRaise (mRaise (cl1 ρ) 0) 1) 13 + ((((mRaise (mRaise (cl1 ρ) 0) 1) 13) * ((mRaise (mRaise (cl1 ρ) 0) 1) 3)) / 100)))]) (k_X6_less l G Y 99999 ((mRaise (mRaise (cl1 ρ) 0) 1) 13 + ((((mRaise (mRaise (cl1 ρ) 0) 1) 13) * ((mRaise (mRaise (cl1 ρ) 0) 1) 3)) / 100)) (by omega) (by omega)) cw_X6_61 [] M hK hZ hw hl.1 rfl (by decide) ⟨by decide, by decide⟩ ⟨Nat.zero_le _, Nat.zero_le _⟩ rfl rfl (Nat.le_of_ble_eq_true rfl) dX6_closeOn_109 (fun r sg h_150 H locs hw => ?_)
              obtain ⟨rfl, rfl⟩ := h_150
              have hw : xW G A s.heap [[(a, .inl (Y 0, 140, .inl (rowF (mRaise (mRaise (cl1 ρ) 0) 1))))]] H locs := hw
              refine x_iast M hK hw 0 0 rfl rfl (by decide) (by decide) dX6_closeOn_112 (fun H locs hw => ?_)
              rw [upd_row] at hw
              have hw : xW G A s.heap [[(a, .inl (Y 0, 140, .inl (rowF (setN (mRaise (mRaise (cl1 ρ) 0) 1) 13 (min 99999 ((mRaise (mRaise (cl1 ρ) 0) 1) 13 + ((((mRaise (mRaise (cl1 ρ) 0) 1) 13) * ((mRaise (mRaise (cl1 ρ) 0) 1) 3)) / 100)))))))]] H locs := hw
              have hw := row_fold (i := 0) (f' := rowF (mRaise (mRaise (mRaise (cl1 ρ) 0) 1) 2)) hw rfl (fun q hq => congrArg nI (raise_row (k := 2) rfl (by omega)))
              have hw : xW G A s.heap [[(a, .inl (Y 0, 140, .inl (rowF (mRaise (mRaise (mRaise (cl1 ρ) 0) 1) 2))))]] H locs := hw
              have hI151 := Inv_raise hI135 (k := 2) (by decide)
              have := hI151.stepp
              have := hI151.n6
              have : (mRaise (mRaise (mRaise (cl1 ρ) 0) 1) 2) 5 = (mRaise (mRaise (cl1 ρ) 0) 1) 5 := raise_o (by decide)
              have : askedOf (mRaise (mRaise (mRaise (cl1 ρ) 0) 1) 2) 0 = askedOf (mRaise (mRaise (cl1 ρ) 0) 1) 0 := asked_raise (by decide)
              have : (mRaise (mRaise (mRaise (cl1 ρ) 0) 1) 2) 6 = (mRaise (mRaise (cl1 ρ) 0) 1) 6 := raise_o (by decide)
              have : askedOf (mRaise (mRaise (mRaise (cl1 ρ) 0) 1) 2) 1 = askedOf (mRaise (mRaise (cl1 ρ) 0) 1) 1 := asked_raise (by decide)
              have : askedOf (mRaise (mRaise (mRaise (cl1 ρ) 0) 1) 2) 2 = askedOf (mRaise (mRaise (cl1 ρ) 0) 1) 2 := asked_raise (by decide)
              have : (mRaise (mRaise (mRaise (cl1 ρ) 0) 1) 2) 0 = (mRaise (mRaise (cl1 ρ) 0) 1) 0 := raise_o (by decide)
              have : (mRaise (mRaise (mRaise (cl1 ρ) 0) 1) 2) 4 = (mRaise (mRaise (cl1 ρ) 0) 1) 4 := raise_o (by decide)
              have : (mRaise (mRaise (mRaise (cl1 ρ) 0) 1) 2) 5 = (mRaise (mRaise (cl1 ρ) 0) 1) 5 := raise_o (by decide)
              refine lv_iinc (v := (nI 3)) (lv' := [(2, .int (nI 3)), (3, .int (nI ((((mRaise (mRaise (cl1 ρ) 0) 1) 13) * ((mRaise (mRaise (cl1 ρ) 0) 1) 3)) / 100))), (1, .int (nI (scarce (cl1 ρ)))), (0, .ref a)]) hx hb dX6_closeOn_113 hl (k := 1) rfl (by decide) (by decide) rfl (fun ls hl => ?_)
              refine lv_goto (tgt := 53) hx hb dX6_closeOn_116 (by decide) ?_
              refine lv_iload_n hx hb dX6_closeOn_53 rfl (lv_at hl 0 rfl) ?_
              refine lv_iconst (v := (nI 3)) hx hb dX6_closeOn_54 (by decide) ?_
              refine x_cge M (tgt := 119) (by decide) (by decide) dX6_closeOn_55 (by decide) (fun c_152 => ?_) (fun c_152 => absurd c_152 (by decide))
              refine lv_aload_n hx hb dX6_closeOn_119 rfl (lv_at hl 3 rfl) ?_
              refine lv_iconst (v := (nI 1)) hx hb dX6_closeOn_120 (by decide) ?_
              refine lv_iload_n hx hb dX6_closeOn_121 rfl (lv_at hl 2 rfl) ?_
              refine x_zne M (tgt := 129) (by omega) dX6_closeOn_122 (by decide) (fun c_153 => ?_) (fun c_153 => ?_)
              · refine lv_iconst (v := (nI 0)) hx hb dX6_closeOn_129 (by decide) ?_
                refine x_iast M hK hw 0 0 rfl rfl (by decide) (by decide) dX6_closeOn_130 (fun H locs hw => ?_)
                rw [upd_row] at hw
                have hw : xW G A s.heap [[(a, .inl (Y 0, 140, .inl (rowF (setN (mRaise (mRaise (mRaise (cl1 ρ) 0) 1) 2) 1 0))))]] H locs := hw
                refine lv_aload_n hx hb dX6_closeOn_131 rfl (lv_at hl 3 rfl) ?_
                refine lv_iconst (v := (nI 0)) hx hb dX6_closeOn_132 (by decide) ?_
                refine lv_dup2_11 hx hb dX6_closeOn_133 rfl rfl ?_
                refine x_iald M hK hw 0 0 rfl rfl (by decide) (by decide) dX6_closeOn_134 ?_
                refine x_topN (n := (mRaise (mRaise (mRaise (cl1 ρ) 0) 1) 2) 0) (congrArg nI ((setN_n (by omega)).trans rfl)) ?_
                refine lv_iconst (v := (nI 1)) hx hb dX6_closeOn_135 (by decide) ?_
                refine x_iadd M (n := 1 + (mRaise (mRaise (mRaise (cl1 ρ) 0) 1) 2) 0) dX6_closeOn_136 (by omega) ?_
                refine x_iast M hK hw 0 0 rfl rfl (by decide) (by decide) dX6_closeOn_137 (fun H locs hw => ?_)
                rw [upd_row] at hw
                have hw : xW G A s.heap [[(a, .inl (Y 0, 140, .inl (rowF (setN (setN (mRaise (mRaise (mRaise (cl1 ρ) 0) 1) 2) 1 0) 0 (1 + (mRaise (mRaise (mRaise (cl1 ρ) 0) 1) 2) 0)))))]] H locs := hw
                refine lv_iload_n hx hb dX6_closeOn_138 rfl (lv_at hl 2 rfl) ?_
                have hQ : clQ (cl1 ρ) = mRaise (mRaise (mRaise (cl1 ρ) 0) 1) 2 := by unfold clQ; rw [show clP (cl1 ρ) 0 = mRaise (cl1 ρ) 0 from if_pos c_9, show clP (mRaise (cl1 ρ) 0) 1 = mRaise (mRaise (cl1 ρ) 0) 1 from if_pos c_105, show clP (mRaise (mRaise (cl1 ρ) 0) 1) 2 = mRaise (mRaise (mRaise (cl1 ρ) 0) 1) 2 from if_pos c_141]
                have hM : mClose ρ = setN (setN (mRaise (mRaise (mRaise (cl1 ρ) 0) 1) 2) 1 0) 0 (ρ 0 + 1) := by unfold mClose; rw [hQ, if_neg (by omega)]
                rw [show 1 + (mRaise (mRaise (mRaise (cl1 ρ) 0) 1) 2) 0 = ρ 0 + 1 by omega, ← hM] at hw
                exact hret _ _ _ (nI (scarce (cl1 ρ))) _ _ dX6_closeOn_139 hw rfl rfl ⟨rfl, rfl⟩
              refine lv_iconst (v := (nI 1)) hx hb dX6_closeOn_125 (by decide) ?_
              refine lv_goto (tgt := 130) hx hb dX6_closeOn_126 (by decide) ?_
              refine x_iast M hK hw 0 0 rfl rfl (by decide) (by decide) dX6_closeOn_130 (fun H locs hw => ?_)
              rw [upd_row] at hw
              have hw : xW G A s.heap [[(a, .inl (Y 0, 140, .inl (rowF (setN (mRaise (mRaise (mRaise (cl1 ρ) 0) 1) 2) 1 1))))]] H locs := hw
              refine lv_aload_n hx hb dX6_closeOn_131 rfl (lv_at hl 3 rfl) ?_
              refine lv_iconst (v := (nI 0)) hx hb dX6_closeOn_132 (by decide) ?_
              refine lv_dup2_11 hx hb dX6_closeOn_133 rfl rfl ?_
              refine x_iald M hK hw 0 0 rfl rfl (by decide) (by decide) dX6_closeOn_134 ?_
              refine x_topN (n := (mRaise (mRaise (mRaise (cl1 ρ) 0) 1) 2) 0) (congrArg nI ((setN_n (by omega)).trans rfl)) ?_
              refine lv_iconst (v := (nI 1)) hx hb dX6_closeOn_135 (by decide) ?_
              refine x_iadd M (n := 1 + (mRaise (mRaise (mRaise (cl1 ρ) 0) 1) 2) 0) dX6_closeOn_136 (by omega) ?_
              refine x_iast M hK hw 0 0 rfl rfl (by decide) (by decide) dX6_closeOn_137 (fun H locs hw => ?_)
              rw [upd_row] at hw
              have hw : xW G A s.heap [[(a, .inl (Y 0, 140, .inl (rowF (setN (setN (mRaise (mRaise (mRaise (cl1 ρ) 0) 1) 2) 1 1) 0 (1 + (mRaise (mRaise (mRaise (cl1 ρ) 0) 1) 2) 0)))))]] H locs := hw
              refine lv_iload_n hx hb dX6_closeOn_138 rfl (lv_at hl 2 rfl) ?_
              have hQ : clQ (cl1 ρ) = mRaise (mRaise (mRaise (cl1 ρ) 0) 1) 2 := by unfold clQ; rw [show clP (cl1 ρ) 0 = mRaise (cl1 ρ) 0 from if_pos c_9, show clP (mRaise (cl1 ρ) 0) 1 = mRaise (mRaise (cl1 ρ) 0) 1 from if_pos c_105, show clP (mRaise (mRaise (cl1 ρ) 0) 1) 2 = mRaise (mRaise (mRaise (cl1 ρ) 0) 1) 2 from if_pos c_141]
              have hM : mClose ρ = setN (setN (mRaise (mRaise (mRaise (cl1 ρ) 0) 1) 2) 1 1) 0 (ρ 0 + 1) := by unfold mClose; rw [hQ, if_pos (by omega)]
              rw [show 1 + (mRaise (mRaise (mRaise (cl1 ρ) 0) 1) 2) 0 = ρ 0 + 1 by omega, ← hM] at hw
              exact hret _ _ _ (nI (scarce (cl1 ρ))) _ _ dX6_closeOn_139 hw rfl rfl ⟨rfl, rfl⟩
            refine lv_iconst (v := (nI 1)) hx hb dX6_closeOn_103 (by decide) ?_
            refine lv_goto (tgt := 108) hx hb dX6_closeOn_104 (by decide) ?_
            refine x_iadd M (n := 1 + (mRaise (mRaise (cl1 ρ) 0) 1) 13) dX6_closeOn_108 (by omega) ?_
            refine x_cSI (As := [.int (nI 99999), .int (nI (1 + (mRaise (mRaise (cl1 ρ) 0) 1) 13))]) (k_X6_less l G Y 99999 (1 + (mRaise (mRaise (cl1 ρ) 0) 1) 13) (by omega) (by omega)) cw_X6_61 [] M hK hZ hw hl.1 rfl (by decide) ⟨by decide, by decide⟩ ⟨Nat.zero_le _, Nat.zero_le _⟩ rfl rfl (Nat.le_of_ble_eq_true rfl) dX6_closeOn_109 (fun r sg h_154 H locs hw => ?_)
            obtain ⟨rfl, rfl⟩ := h_154
            have hw : xW G A s.heap [[(a, .inl (Y 0, 140, .inl (rowF (mRaise (mRaise (cl1 ρ) 0) 1))))]] H locs := hw
            refine x_iast M hK hw 0 0 rfl rfl (by decide) (by decide) dX6_closeOn_112 (fun H locs hw => ?_)
            rw [upd_row] at hw
            have hw : xW G A s.heap [[(a, .inl (Y 0, 140, .inl (rowF (setN (mRaise (mRaise (cl1 ρ) 0) 1) 13 (min 99999 (1 + (mRaise (mRaise (cl1 ρ) 0) 1) 13))))))]] H locs := hw
            have hw := row_fold (i := 0) (f' := rowF (mRaise (mRaise (mRaise (cl1 ρ) 0) 1) 2)) hw rfl (fun q hq => congrArg nI (raise_row (k := 2) rfl (by omega)))
            have hw : xW G A s.heap [[(a, .inl (Y 0, 140, .inl (rowF (mRaise (mRaise (mRaise (cl1 ρ) 0) 1) 2))))]] H locs := hw
            have hI155 := Inv_raise hI135 (k := 2) (by decide)
            have := hI155.stepp
            have := hI155.n6
            have : (mRaise (mRaise (mRaise (cl1 ρ) 0) 1) 2) 5 = (mRaise (mRaise (cl1 ρ) 0) 1) 5 := raise_o (by decide)
            have : askedOf (mRaise (mRaise (mRaise (cl1 ρ) 0) 1) 2) 0 = askedOf (mRaise (mRaise (cl1 ρ) 0) 1) 0 := asked_raise (by decide)
            have : (mRaise (mRaise (mRaise (cl1 ρ) 0) 1) 2) 6 = (mRaise (mRaise (cl1 ρ) 0) 1) 6 := raise_o (by decide)
            have : askedOf (mRaise (mRaise (mRaise (cl1 ρ) 0) 1) 2) 1 = askedOf (mRaise (mRaise (cl1 ρ) 0) 1) 1 := asked_raise (by decide)
            have : askedOf (mRaise (mRaise (mRaise (cl1 ρ) 0) 1) 2) 2 = askedOf (mRaise (mRaise (cl1 ρ) 0) 1) 2 := asked_raise (by decide)
            have : (mRaise (mRaise (mRaise (cl1 ρ) 0) 1) 2) 0 = (mRaise (mRaise (cl1 ρ) 0) 1) 0 := raise_o (by decide)
            have : (mRaise (mRaise (mRaise (cl1 ρ) 0) 1) 2) 4 = (mRaise (mRaise (cl1 ρ) 0) 1) 4 := raise_o (by decide)
            have : (mRaise (mRaise (mRaise (cl1 ρ) 0) 1) 2) 5 = (mRaise (mRaise (cl1 ρ) 0) 1) 5 := raise_o (by decide)
            refine lv_iinc (v := (nI 3)) (lv' := [(2, .int (nI 3)), (3, .int (nI ((((mRaise (mRaise (cl1 ρ) 0) 1) 13) * ((mRaise (mRaise (cl1 ρ) 0) 1) 3)) / 100))), (1, .int (nI (scarce (cl1 ρ)))), (0, .ref a)]) hx hb dX6_closeOn_113 hl (k := 1) rfl (by decide) (by decide) rfl (fun ls hl => ?_)
            refine lv_goto (tgt := 53) hx hb dX6_closeOn_116 (by decide) ?_
            refine lv_iload_n hx hb dX6_closeOn_53 rfl (lv_at hl 0 rfl) ?_
            refine lv_iconst (v := (nI 3)) hx hb dX6_closeOn_54 (by decide) ?_
            refine x_cge M (tgt := 119) (by decide) (by decide) dX6_closeOn_55 (by decide) (fun c_156 => ?_) (fun c_156 => absurd c_156 (by decide))
            refine lv_aload_n hx hb dX6_closeOn_119 rfl (lv_at hl 3 rfl) ?_
            refine lv_iconst (v := (nI 1)) hx hb dX6_closeOn_120 (by decide) ?_
            refine lv_iload_n hx hb dX6_closeOn_121 rfl (lv_at hl 2 rfl) ?_
            refine x_zne M (tgt := 129) (by omega) dX6_closeOn_122 (by decide) (fun c_157 => ?_) (fun c_157 => ?_)
            · refine lv_iconst (v := (nI 0)) hx hb dX6_closeOn_129 (by decide) ?_
              refine x_iast M hK hw 0 0 rfl rfl (by decide) (by decide) dX6_closeOn_130 (fun H locs hw => ?_)
              rw [upd_row] at hw
              have hw : xW G A s.heap [[(a, .inl (Y 0, 140, .inl (rowF (setN (mRaise (mRaise (mRaise (cl1 ρ) 0) 1) 2) 1 0))))]] H locs := hw
              refine lv_aload_n hx hb dX6_closeOn_131 rfl (lv_at hl 3 rfl) ?_
              refine lv_iconst (v := (nI 0)) hx hb dX6_closeOn_132 (by decide) ?_
              refine lv_dup2_11 hx hb dX6_closeOn_133 rfl rfl ?_
              refine x_iald M hK hw 0 0 rfl rfl (by decide) (by decide) dX6_closeOn_134 ?_
              refine x_topN (n := (mRaise (mRaise (mRaise (cl1 ρ) 0) 1) 2) 0) (congrArg nI ((setN_n (by omega)).trans rfl)) ?_
              refine lv_iconst (v := (nI 1)) hx hb dX6_closeOn_135 (by decide) ?_
              refine x_iadd M (n := 1 + (mRaise (mRaise (mRaise (cl1 ρ) 0) 1) 2) 0) dX6_closeOn_136 (by omega) ?_
              refine x_iast M hK hw 0 0 rfl rfl (by decide) (by decide) dX6_closeOn_137 (fun H locs hw => ?_)
              rw [upd_row] at hw
              have hw : xW G A s.heap [[(a, .inl (Y 0, 140, .inl (rowF (setN (setN (mRaise (mRaise (mRaise (cl1 ρ) 0) 1) 2) 1 0) 0 (1 + (mRaise (mRaise (mRaise (cl1 ρ) 0) 1) 2) 0)))))]] H locs := hw
              refine lv_iload_n hx hb dX6_closeOn_138 rfl (lv_at hl 2 rfl) ?_
              have hQ : clQ (cl1 ρ) = mRaise (mRaise (mRaise (cl1 ρ) 0) 1) 2 := by unfold clQ; rw [show clP (cl1 ρ) 0 = mRaise (cl1 ρ) 0 from if_pos c_9, show clP (mRaise (cl1 ρ) 0) 1 = mRaise (mRaise (cl1 ρ) 0) 1 from if_pos c_105, show clP (mRaise (mRaise (cl1 ρ) 0) 1) 2 = mRaise (mRaise (mRaise (cl1 ρ) 0) 1) 2 from if_pos c_141]
              have hM : mClose ρ = setN (setN (mRaise (mRaise (mRaise (cl1 ρ) 0) 1) 2) 1 0) 0 (ρ 0 + 1) := by unfold mClose; rw [hQ, if_neg (by omega)]
              rw [show 1 + (mRaise (mRaise (mRaise (cl1 ρ) 0) 1) 2) 0 = ρ 0 + 1 by omega, ← hM] at hw
              exact hret _ _ _ (nI (scarce (cl1 ρ))) _ _ dX6_closeOn_139 hw rfl rfl ⟨rfl, rfl⟩
            refine lv_iconst (v := (nI 1)) hx hb dX6_closeOn_125 (by decide) ?_
            refine lv_goto (tgt := 130) hx hb dX6_closeOn_126 (by decide) ?_
            refine x_iast M hK hw 0 0 rfl rfl (by decide) (by decide) dX6_closeOn_130 (fun H locs hw => ?_)
            rw [upd_row] at hw
            have hw : xW G A s.heap [[(a, .inl (Y 0, 140, .inl (rowF (setN (mRaise (mRaise (mRaise (cl1 ρ) 0) 1) 2) 1 1))))]] H locs := hw
            refine lv_aload_n hx hb dX6_closeOn_131 rfl (lv_at hl 3 rfl) ?_
            refine lv_iconst (v := (nI 0)) hx hb dX6_closeOn_132 (by decide) ?_
            refine lv_dup2_11 hx hb dX6_closeOn_133 rfl rfl ?_
            refine x_iald M hK hw 0 0 rfl rfl (by decide) (by decide) dX6_closeOn_134 ?_
            refine x_topN (n := (mRaise (mRaise (mRaise (cl1 ρ) 0) 1) 2) 0) (congrArg nI ((setN_n (by omega)).trans rfl)) ?_
            refine lv_iconst (v := (nI 1)) hx hb dX6_closeOn_135 (by decide) ?_
            refine x_iadd M (n := 1 + (mRaise (mRaise (mRaise (cl1 ρ) 0) 1) 2) 0) dX6_closeOn_136 (by omega) ?_
            refine x_iast M hK hw 0 0 rfl rfl (by decide) (by decide) dX6_closeOn_137 (fun H locs hw => ?_)
            rw [upd_row] at hw
            have hw : xW G A s.heap [[(a, .inl (Y 0, 140, .inl (rowF (setN (setN (mRaise (mRaise (mRaise (cl1 ρ) 0) 1) 2) 1 1) 0 (1 + (mRaise (mRaise (mRaise (cl1 ρ) 0) 1) 2) 0)))))]] H locs := hw
            refine lv_iload_n hx hb dX6_closeOn_138 rfl (lv_at hl 2 rfl) ?_
            have hQ : clQ (cl1 ρ) = mRaise (mRaise (mRaise (cl1 ρ) 0) 1) 2 := by unfold clQ; rw [show clP (cl1 ρ) 0 = mRaise (cl1 ρ) 0 from if_pos c_9, show clP (mRaise (cl1 ρ) 0) 1 = mRaise (mRaise (cl1 ρ) 0) 1 from if_pos c_105, show clP (mRaise (mRaise (cl1 ρ) 0) 1) 2 = mRaise (mRaise (mRaise (cl1 ρ) 0) 1) 2 from if_pos c_141]
            have hM : mClose ρ = setN (setN (mRaise (mRaise (mRaise (cl1 ρ) 0) 1) 2) 1 1) 0 (ρ 0 + 1) := by unfold mClose; rw [hQ, if_pos (by omega)]
            rw [show 1 + (mRaise (mRaise (mRaise (cl1 ρ) 0) 1) 2) 0 = ρ 0 + 1 by omega, ← hM] at hw
            exact hret _ _ _ (nI (scarce (cl1 ρ))) _ _ dX6_closeOn_139 hw rfl rfl ⟨rfl, rfl⟩
          refine lv_iconst (v := (nI 1)) hx hb dX6_closeOn_103 (by decide) ?_
          refine lv_goto (tgt := 108) hx hb dX6_closeOn_104 (by decide) ?_
          refine x_iadd M (n := 1 + (mRaise (cl1 ρ) 0) 12) dX6_closeOn_108 (by omega) ?_
          refine x_cSI (As := [.int (nI 99999), .int (nI (1 + (mRaise (cl1 ρ) 0) 12))]) (k_X6_less l G Y 99999 (1 + (mRaise (cl1 ρ) 0) 12) (by omega) (by omega)) cw_X6_61 [] M hK hZ hw hl.1 rfl (by decide) ⟨by decide, by decide⟩ ⟨Nat.zero_le _, Nat.zero_le _⟩ rfl rfl (Nat.le_of_ble_eq_true rfl) dX6_closeOn_109 (fun r sg h_158 H locs hw => ?_)
          obtain ⟨rfl, rfl⟩ := h_158
          have hw : xW G A s.heap [[(a, .inl (Y 0, 140, .inl (rowF (mRaise (cl1 ρ) 0))))]] H locs := hw
          refine x_iast M hK hw 0 0 rfl rfl (by decide) (by decide) dX6_closeOn_112 (fun H locs hw => ?_)
          rw [upd_row] at hw
          have hw : xW G A s.heap [[(a, .inl (Y 0, 140, .inl (rowF (setN (mRaise (cl1 ρ) 0) 12 (min 99999 (1 + (mRaise (cl1 ρ) 0) 12))))))]] H locs := hw
          have hw := row_fold (i := 0) (f' := rowF (mRaise (mRaise (cl1 ρ) 0) 1)) hw rfl (fun q hq => congrArg nI (raise_row (k := 1) rfl (by omega)))
          have hw : xW G A s.heap [[(a, .inl (Y 0, 140, .inl (rowF (mRaise (mRaise (cl1 ρ) 0) 1))))]] H locs := hw
          have hI159 := Inv_raise hI99 (k := 1) (by decide)
          have := hI159.stepp
          have := hI159.n6
          have : (mRaise (mRaise (cl1 ρ) 0) 1) 5 = (mRaise (cl1 ρ) 0) 5 := raise_o (by decide)
          have : askedOf (mRaise (mRaise (cl1 ρ) 0) 1) 0 = askedOf (mRaise (cl1 ρ) 0) 0 := asked_raise (by decide)
          have : askedOf (mRaise (mRaise (cl1 ρ) 0) 1) 1 = askedOf (mRaise (cl1 ρ) 0) 1 := asked_raise (by decide)
          have : (mRaise (mRaise (cl1 ρ) 0) 1) 7 = (mRaise (cl1 ρ) 0) 7 := raise_o (by decide)
          have : askedOf (mRaise (mRaise (cl1 ρ) 0) 1) 2 = askedOf (mRaise (cl1 ρ) 0) 2 := asked_raise (by decide)
          have : (mRaise (mRaise (cl1 ρ) 0) 1) 0 = (mRaise (cl1 ρ) 0) 0 := raise_o (by decide)
          have : (mRaise (mRaise (cl1 ρ) 0) 1) 4 = (mRaise (cl1 ρ) 0) 4 := raise_o (by decide)
          have : (mRaise (mRaise (cl1 ρ) 0) 1) 5 = (mRaise (cl1 ρ) 0) 5 := raise_o (by decide)
          refine lv_iinc (v := (nI 2)) (lv' := [(2, .int (nI 2)), (3, .int (nI ((((mRaise (cl1 ρ) 0) 12) * ((mRaise (cl1 ρ) 0) 3)) / 100))), (1, .int (nI (scarce (cl1 ρ)))), (0, .ref a)]) hx hb dX6_closeOn_113 hl (k := 1) rfl (by decide) (by decide) rfl (fun ls hl => ?_)
          refine lv_goto (tgt := 53) hx hb dX6_closeOn_116 (by decide) ?_
          refine lv_iload_n hx hb dX6_closeOn_53 rfl (lv_at hl 0 rfl) ?_
          refine lv_iconst (v := (nI 3)) hx hb dX6_closeOn_54 (by decide) ?_
          refine x_cge M (tgt := 119) (by decide) (by decide) dX6_closeOn_55 (by decide) (fun c_160 => absurd c_160 (by decide)) (fun c_160 => ?_)
          refine lv_aload_n hx hb dX6_closeOn_58 rfl (lv_at hl 3 rfl) ?_
          refine lv_iload_n hx hb dX6_closeOn_59 rfl (lv_at hl 0 rfl) ?_
          refine x_cSI (As := [.ref a, .int (nI 2)]) (k_X6_asked l G Y a 2 (mRaise (mRaise (cl1 ρ) 0) 1) (hI159) (by omega)) cw_X6_53 [0] M hK hZ hw hl.1 rfl (by decide) ⟨by decide, by decide⟩ ⟨Nat.zero_le _, Nat.zero_le _⟩ rfl rfl (Nat.le_of_ble_eq_true rfl) dX6_closeOn_60 (fun r sg h_161 H locs hw => ?_)
          obtain ⟨rfl, rfl⟩ := h_161
          have hw : xW G A s.heap [[(a, .inl (Y 0, 140, .inl (rowF (mRaise (mRaise (cl1 ρ) 0) 1))))]] H locs := hw
          have q_162 : askedOf (mRaise (mRaise (cl1 ρ) 0) 1) 2 ≤ 54 := askedOf_le hI159 (by omega)
          refine lv_aload_n hx hb dX6_closeOn_63 rfl (lv_at hl 3 rfl) ?_
          refine lv_iconst (v := (nI 5)) hx hb dX6_closeOn_64 (by decide) ?_
          refine lv_iload_n hx hb dX6_closeOn_65 rfl (lv_at hl 0 rfl) ?_
          refine x_iadd M (n := 7) dX6_closeOn_66 rfl ?_
          refine x_iald M hK hw 0 0 rfl rfl (by decide) (by decide) dX6_closeOn_67 ?_
          refine x_topN (n := (mRaise (mRaise (cl1 ρ) 0) 1) 7) rfl ?_
          have q_163 : 1 ≤ (mRaise (mRaise (cl1 ρ) 0) 1) 7 := (hI159.sup (q := 7) (k := 2) (by decide) rfl).1
          have q_164 : (mRaise (mRaise (cl1 ρ) 0) 1) 7 ≤ 9 := (hI159.sup (q := 7) (k := 2) (by decide) rfl).2
          refine x_cle M (tgt := 113) (by omega) (by omega) dX6_closeOn_68 (by decide) (fun c_165 => ?_) (fun c_165 => ?_)
          · refine lv_iinc (v := (nI 3)) (lv' := [(2, .int (nI 3)), (3, .int (nI ((((mRaise (cl1 ρ) 0) 12) * ((mRaise (cl1 ρ) 0) 3)) / 100))), (1, .int (nI (scarce (cl1 ρ)))), (0, .ref a)]) hx hb dX6_closeOn_113 hl (k := 0) rfl (by decide) (by decide) rfl (fun ls hl => ?_)
            refine lv_goto (tgt := 53) hx hb dX6_closeOn_116 (by decide) ?_
            refine lv_iload_n hx hb dX6_closeOn_53 rfl (lv_at hl 0 rfl) ?_
            refine lv_iconst (v := (nI 3)) hx hb dX6_closeOn_54 (by decide) ?_
            refine x_cge M (tgt := 119) (by decide) (by decide) dX6_closeOn_55 (by decide) (fun c_166 => ?_) (fun c_166 => absurd c_166 (by decide))
            refine lv_aload_n hx hb dX6_closeOn_119 rfl (lv_at hl 3 rfl) ?_
            refine lv_iconst (v := (nI 1)) hx hb dX6_closeOn_120 (by decide) ?_
            refine lv_iload_n hx hb dX6_closeOn_121 rfl (lv_at hl 2 rfl) ?_
            refine x_zne M (tgt := 129) (by omega) dX6_closeOn_122 (by decide) (fun c_167 => ?_) (fun c_167 => ?_)
            · refine lv_iconst (v := (nI 0)) hx hb dX6_closeOn_129 (by decide) ?_
              refine x_iast M hK hw 0 0 rfl rfl (by decide) (by decide) dX6_closeOn_130 (fun H locs hw => ?_)
              rw [upd_row] at hw
              have hw : xW G A s.heap [[(a, .inl (Y 0, 140, .inl (rowF (setN (mRaise (mRaise (cl1 ρ) 0) 1) 1 0))))]] H locs := hw
              refine lv_aload_n hx hb dX6_closeOn_131 rfl (lv_at hl 3 rfl) ?_
              refine lv_iconst (v := (nI 0)) hx hb dX6_closeOn_132 (by decide) ?_
              refine lv_dup2_11 hx hb dX6_closeOn_133 rfl rfl ?_
              refine x_iald M hK hw 0 0 rfl rfl (by decide) (by decide) dX6_closeOn_134 ?_
              refine x_topN (n := (mRaise (mRaise (cl1 ρ) 0) 1) 0) (congrArg nI ((setN_n (by omega)).trans rfl)) ?_
              refine lv_iconst (v := (nI 1)) hx hb dX6_closeOn_135 (by decide) ?_
              refine x_iadd M (n := 1 + (mRaise (mRaise (cl1 ρ) 0) 1) 0) dX6_closeOn_136 (by omega) ?_
              refine x_iast M hK hw 0 0 rfl rfl (by decide) (by decide) dX6_closeOn_137 (fun H locs hw => ?_)
              rw [upd_row] at hw
              have hw : xW G A s.heap [[(a, .inl (Y 0, 140, .inl (rowF (setN (setN (mRaise (mRaise (cl1 ρ) 0) 1) 1 0) 0 (1 + (mRaise (mRaise (cl1 ρ) 0) 1) 0)))))]] H locs := hw
              refine lv_iload_n hx hb dX6_closeOn_138 rfl (lv_at hl 2 rfl) ?_
              have hQ : clQ (cl1 ρ) = mRaise (mRaise (cl1 ρ) 0) 1 := by unfold clQ; rw [show clP (cl1 ρ) 0 = mRaise (cl1 ρ) 0 from if_pos c_9, show clP (mRaise (cl1 ρ) 0) 1 = mRaise (mRaise (cl1 ρ) 0) 1 from if_pos c_105, show clP (mRaise (mRaise (cl1 ρ) 0) 1) 2 = mRaise (mRaise (cl1 ρ) 0) 1 from if_neg (Nat.not_lt.mpr c_165)]
              have hM : mClose ρ = setN (setN (mRaise (mRaise (cl1 ρ) 0) 1) 1 0) 0 (ρ 0 + 1) := by unfold mClose; rw [hQ, if_neg (by omega)]
              rw [show 1 + (mRaise (mRaise (cl1 ρ) 0) 1) 0 = ρ 0 + 1 by omega, ← hM] at hw
              exact hret _ _ _ (nI (scarce (cl1 ρ))) _ _ dX6_closeOn_139 hw rfl rfl ⟨rfl, rfl⟩
            refine lv_iconst (v := (nI 1)) hx hb dX6_closeOn_125 (by decide) ?_
            refine lv_goto (tgt := 130) hx hb dX6_closeOn_126 (by decide) ?_
            refine x_iast M hK hw 0 0 rfl rfl (by decide) (by decide) dX6_closeOn_130 (fun H locs hw => ?_)
            rw [upd_row] at hw
            have hw : xW G A s.heap [[(a, .inl (Y 0, 140, .inl (rowF (setN (mRaise (mRaise (cl1 ρ) 0) 1) 1 1))))]] H locs := hw
            refine lv_aload_n hx hb dX6_closeOn_131 rfl (lv_at hl 3 rfl) ?_
            refine lv_iconst (v := (nI 0)) hx hb dX6_closeOn_132 (by decide) ?_
            refine lv_dup2_11 hx hb dX6_closeOn_133 rfl rfl ?_
            refine x_iald M hK hw 0 0 rfl rfl (by decide) (by decide) dX6_closeOn_134 ?_
            refine x_topN (n := (mRaise (mRaise (cl1 ρ) 0) 1) 0) (congrArg nI ((setN_n (by omega)).trans rfl)) ?_
            refine lv_iconst (v := (nI 1)) hx hb dX6_closeOn_135 (by decide) ?_
            refine x_iadd M (n := 1 + (mRaise (mRaise (cl1 ρ) 0) 1) 0) dX6_closeOn_136 (by omega) ?_
            refine x_iast M hK hw 0 0 rfl rfl (by decide) (by decide) dX6_closeOn_137 (fun H locs hw => ?_)
            rw [upd_row] at hw
            have hw : xW G A s.heap [[(a, .inl (Y 0, 140, .inl (rowF (setN (setN (mRaise (mRaise (cl1 ρ) 0) 1) 1 1) 0 (1 + (mRaise (mRaise (cl1 ρ) 0) 1) 0)))))]] H locs := hw
            refine lv_iload_n hx hb dX6_closeOn_138 rfl (lv_at hl 2 rfl) ?_
            have hQ : clQ (cl1 ρ) = mRaise (mRaise (cl1 ρ) 0) 1 := by unfold clQ; rw [show clP (cl1 ρ) 0 = mRaise (cl1 ρ) 0 from if_pos c_9, show clP (mRaise (cl1 ρ) 0) 1 = mRaise (mRaise (cl1 ρ) 0) 1 from if_pos c_105, show clP (mRaise (mRaise (cl1 ρ) 0) 1) 2 = mRaise (mRaise (cl1 ρ) 0) 1 from if_neg (Nat.not_lt.mpr c_165)]
            have hM : mClose ρ = setN (setN (mRaise (mRaise (cl1 ρ) 0) 1) 1 1) 0 (ρ 0 + 1) := by unfold mClose; rw [hQ, if_pos (by omega)]
            rw [show 1 + (mRaise (mRaise (cl1 ρ) 0) 1) 0 = ρ 0 + 1 by omega, ← hM] at hw
            exact hret _ _ _ (nI (scarce (cl1 ρ))) _ _ dX6_closeOn_139 hw rfl rfl ⟨rfl, rfl⟩
          refine lv_aload_n hx hb dX6_closeOn_71 rfl (lv_at hl 3 rfl) ?_
          refine lv_bipush (v := (nI 11)) hx hb dX6_closeOn_72 (by decide) ?_
          refine lv_iload_n hx hb dX6_closeOn_74 rfl (lv_at hl 0 rfl) ?_
          refine x_iadd M (n := 13) dX6_closeOn_75 rfl ?_
          refine x_iald M hK hw 0 0 rfl rfl (by decide) (by decide) dX6_closeOn_76 ?_
          refine x_topN (n := (mRaise (mRaise (cl1 ρ) 0) 1) 13) rfl ?_
          have q_168 : 1 ≤ (mRaise (mRaise (cl1 ρ) 0) 1) 13 := (hI159.pri (q := 13) (k := 2) (by decide) rfl).1
          have q_169 : (mRaise (mRaise (cl1 ρ) 0) 1) 13 ≤ 99999 := (hI159.pri (q := 13) (k := 2) (by decide) rfl).2
          refine lv_aload_n hx hb dX6_closeOn_77 rfl (lv_at hl 3 rfl) ?_
          refine lv_iconst (v := (nI 3)) hx hb dX6_closeOn_78 (by decide) ?_
          refine x_iald M hK hw 0 0 rfl rfl (by decide) (by decide) dX6_closeOn_79 ?_
          refine x_topN (n := (mRaise (mRaise (cl1 ρ) 0) 1) 3) rfl ?_
          have q_170 : 1 ≤ (mRaise (mRaise (cl1 ρ) 0) 1) 3 := (hI159.stepp).1
          have q_171 : (mRaise (mRaise (cl1 ρ) 0) 1) 3 ≤ 50 := (hI159.stepp).2
          refine x_imul M (n := ((mRaise (mRaise (cl1 ρ) 0) 1) 13) * ((mRaise (mRaise (cl1 ρ) 0) 1) 3)) dX6_closeOn_80 rfl ?_
          have q_172 : ((mRaise (mRaise (cl1 ρ) 0) 1) 13) * ((mRaise (mRaise (cl1 ρ) 0) 1) 3) ≤ 4999950 := Nat.le_trans (Nat.mul_le_mul (show (mRaise (mRaise (cl1 ρ) 0) 1) 13 ≤ 99999 by omega) (show (mRaise (mRaise (cl1 ρ) 0) 1) 3 ≤ 50 by omega)) (by decide)
          refine lv_bipush (v := (nI 100)) hx hb dX6_closeOn_81 (by decide) ?_
          refine x_idiv M (n := (((mRaise (mRaise (cl1 ρ) 0) 1) 13) * ((mRaise (mRaise (cl1 ρ) 0) 1) 3)) / 100) dX6_closeOn_83 (by omega) (by omega) (by decide) rfl ?_
          refine lv_istore_n (lv' := [(3, .int (nI ((((mRaise (mRaise (cl1 ρ) 0) 1) 13) * ((mRaise (mRaise (cl1 ρ) 0) 1) 3)) / 100))), (2, .int (nI 2)), (1, .int (nI (scarce (cl1 ρ)))), (0, .ref a)]) hx hb dX6_closeOn_84 rfl hl (by decide) rfl (fun ls hl => ?_)
          refine lv_aload_n hx hb dX6_closeOn_85 rfl (lv_at hl 3 rfl) ?_
          refine lv_bipush (v := (nI 11)) hx hb dX6_closeOn_86 (by decide) ?_
          refine lv_iload_n hx hb dX6_closeOn_88 rfl (lv_at hl 1 rfl) ?_
          refine x_iadd M (n := 13) dX6_closeOn_89 rfl ?_
          refine lv_ldc (v := (nI 99999)) hx hb M.2.2.2.1 (M.2.2.2.2 _ mw_1137) dX6_closeOn_90 ?_
          refine lv_aload_n hx hb dX6_closeOn_92 rfl (lv_at hl 3 rfl) ?_
          refine lv_bipush (v := (nI 11)) hx hb dX6_closeOn_93 (by decide) ?_
          refine lv_iload_n hx hb dX6_closeOn_95 rfl (lv_at hl 1 rfl) ?_
          refine x_iadd M (n := 13) dX6_closeOn_96 rfl ?_
          refine x_iald M hK hw 0 0 rfl rfl (by decide) (by decide) dX6_closeOn_97 ?_
          refine x_topN (n := (mRaise (mRaise (cl1 ρ) 0) 1) 13) rfl ?_
          refine lv_iload_n hx hb dX6_closeOn_98 rfl (lv_at hl 0 rfl) ?_
          refine lv_iconst (v := (nI 1)) hx hb dX6_closeOn_99 (by decide) ?_
          refine x_cge M (tgt := 107) (by omega) (by decide) dX6_closeOn_100 (by decide) (fun c_173 => ?_) (fun c_173 => ?_)
          · refine lv_iload_n hx hb dX6_closeOn_107 rfl (lv_at hl 0 rfl) ?_
            refine x_iadd M (n := (mRaise (mRaise (cl1 ρ) 0) 1) 13 + ((((mRaise (mRaise (cl1 ρ) 0) 1) 13) * ((mRaise (mRaise (cl1 ρ) 0) 1) 3)) / 100)) dX6_closeOn_108 rfl ?_
            refine x_cSI (As := [.int (nI 99999), .int (nI ((mRaise (mRaise (cl1 ρ) 0) 1) 13 + ((((mRaise (mRaise (cl1 ρ) 0) 1) 13) * ((mRaise (mRaise (cl1 ρ) 0) 1) 3)) / 100)))]) (k_X6_less l G Y 99999 ((mRaise (mRaise (cl1 ρ) 0) 1) 13 + ((((mRaise (mRaise (cl1 ρ) 0) 1) 13) * ((mRaise (mRaise (cl1 ρ) 0) 1) 3)) / 100)) (by omega) (by omega)) cw_X6_61 [] M hK hZ hw hl.1 rfl (by decide) ⟨by decide, by decide⟩ ⟨Nat.zero_le _, Nat.zero_le _⟩ rfl rfl (Nat.le_of_ble_eq_true rfl) dX6_closeOn_109 (fun r sg h_174 H locs hw => ?_)
            obtain ⟨rfl, rfl⟩ := h_174
            have hw : xW G A s.heap [[(a, .inl (Y 0, 140, .inl (rowF (mRaise (mRaise (cl1 ρ) 0) 1))))]] H locs := hw
            refine x_iast M hK hw 0 0 rfl rfl (by decide) (by decide) dX6_closeOn_112 (fun H locs hw => ?_)
            rw [upd_row] at hw
            have hw : xW G A s.heap [[(a, .inl (Y 0, 140, .inl (rowF (setN (mRaise (mRaise (cl1 ρ) 0) 1) 13 (min 99999 ((mRaise (mRaise (cl1 ρ) 0) 1) 13 + ((((mRaise (mRaise (cl1 ρ) 0) 1) 13) * ((mRaise (mRaise (cl1 ρ) 0) 1) 3)) / 100)))))))]] H locs := hw
            have hw := row_fold (i := 0) (f' := rowF (mRaise (mRaise (mRaise (cl1 ρ) 0) 1) 2)) hw rfl (fun q hq => congrArg nI (raise_row (k := 2) rfl (by omega)))
            have hw : xW G A s.heap [[(a, .inl (Y 0, 140, .inl (rowF (mRaise (mRaise (mRaise (cl1 ρ) 0) 1) 2))))]] H locs := hw
            have hI175 := Inv_raise hI159 (k := 2) (by decide)
            have := hI175.stepp
            have := hI175.n6
            have : (mRaise (mRaise (mRaise (cl1 ρ) 0) 1) 2) 5 = (mRaise (mRaise (cl1 ρ) 0) 1) 5 := raise_o (by decide)
            have : askedOf (mRaise (mRaise (mRaise (cl1 ρ) 0) 1) 2) 0 = askedOf (mRaise (mRaise (cl1 ρ) 0) 1) 0 := asked_raise (by decide)
            have : (mRaise (mRaise (mRaise (cl1 ρ) 0) 1) 2) 6 = (mRaise (mRaise (cl1 ρ) 0) 1) 6 := raise_o (by decide)
            have : askedOf (mRaise (mRaise (mRaise (cl1 ρ) 0) 1) 2) 1 = askedOf (mRaise (mRaise (cl1 ρ) 0) 1) 1 := asked_raise (by decide)
            have : askedOf (mRaise (mRaise (mRaise (cl1 ρ) 0) 1) 2) 2 = askedOf (mRaise (mRaise (cl1 ρ) 0) 1) 2 := asked_raise (by decide)
            have : (mRaise (mRaise (mRaise (cl1 ρ) 0) 1) 2) 0 = (mRaise (mRaise (cl1 ρ) 0) 1) 0 := raise_o (by decide)
            have : (mRaise (mRaise (mRaise (cl1 ρ) 0) 1) 2) 4 = (mRaise (mRaise (cl1 ρ) 0) 1) 4 := raise_o (by decide)
            have : (mRaise (mRaise (mRaise (cl1 ρ) 0) 1) 2) 5 = (mRaise (mRaise (cl1 ρ) 0) 1) 5 := raise_o (by decide)
            refine lv_iinc (v := (nI 3)) (lv' := [(2, .int (nI 3)), (3, .int (nI ((((mRaise (mRaise (cl1 ρ) 0) 1) 13) * ((mRaise (mRaise (cl1 ρ) 0) 1) 3)) / 100))), (1, .int (nI (scarce (cl1 ρ)))), (0, .ref a)]) hx hb dX6_closeOn_113 hl (k := 1) rfl (by decide) (by decide) rfl (fun ls hl => ?_)
            refine lv_goto (tgt := 53) hx hb dX6_closeOn_116 (by decide) ?_
            refine lv_iload_n hx hb dX6_closeOn_53 rfl (lv_at hl 0 rfl) ?_
            refine lv_iconst (v := (nI 3)) hx hb dX6_closeOn_54 (by decide) ?_
            refine x_cge M (tgt := 119) (by decide) (by decide) dX6_closeOn_55 (by decide) (fun c_176 => ?_) (fun c_176 => absurd c_176 (by decide))
            refine lv_aload_n hx hb dX6_closeOn_119 rfl (lv_at hl 3 rfl) ?_
            refine lv_iconst (v := (nI 1)) hx hb dX6_closeOn_120 (by decide) ?_
            refine lv_iload_n hx hb dX6_closeOn_121 rfl (lv_at hl 2 rfl) ?_
            refine x_zne M (tgt := 129) (by omega) dX6_closeOn_122 (by decide) (fun c_177 => ?_) (fun c_177 => ?_)
            · refine lv_iconst (v := (nI 0)) hx hb dX6_closeOn_129 (by decide) ?_
              refine x_iast M hK hw 0 0 rfl rfl (by decide) (by decide) dX6_closeOn_130 (fun H locs hw => ?_)
              rw [upd_row] at hw
              have hw : xW G A s.heap [[(a, .inl (Y 0, 140, .inl (rowF (setN (mRaise (mRaise (mRaise (cl1 ρ) 0) 1) 2) 1 0))))]] H locs := hw
              refine lv_aload_n hx hb dX6_closeOn_131 rfl (lv_at hl 3 rfl) ?_
              refine lv_iconst (v := (nI 0)) hx hb dX6_closeOn_132 (by decide) ?_
              refine lv_dup2_11 hx hb dX6_closeOn_133 rfl rfl ?_
              refine x_iald M hK hw 0 0 rfl rfl (by decide) (by decide) dX6_closeOn_134 ?_
              refine x_topN (n := (mRaise (mRaise (mRaise (cl1 ρ) 0) 1) 2) 0) (congrArg nI ((setN_n (by omega)).trans rfl)) ?_
              refine lv_iconst (v := (nI 1)) hx hb dX6_closeOn_135 (by decide) ?_
              refine x_iadd M (n := 1 + (mRaise (mRaise (mRaise (cl1 ρ) 0) 1) 2) 0) dX6_closeOn_136 (by omega) ?_
              refine x_iast M hK hw 0 0 rfl rfl (by decide) (by decide) dX6_closeOn_137 (fun H locs hw => ?_)
              rw [upd_row] at hw
              have hw : xW G A s.heap [[(a, .inl (Y 0, 140, .inl (rowF (setN (setN (mRaise (mRaise (mRaise (cl1 ρ) 0) 1) 2) 1 0) 0 (1 + (mRaise (mRaise (mRaise (cl1 ρ) 0) 1) 2) 0)))))]] H locs := hw
              refine lv_iload_n hx hb dX6_closeOn_138 rfl (lv_at hl 2 rfl) ?_
              have hQ : clQ (cl1 ρ) = mRaise (mRaise (mRaise (cl1 ρ) 0) 1) 2 := by unfold clQ; rw [show clP (cl1 ρ) 0 = mRaise (cl1 ρ) 0 from if_pos c_9, show clP (mRaise (cl1 ρ) 0) 1 = mRaise (mRaise (cl1 ρ) 0) 1 from if_pos c_105, show clP (mRaise (mRaise (cl1 ρ) 0) 1) 2 = mRaise (mRaise (mRaise (cl1 ρ) 0) 1) 2 from if_pos c_165]
              have hM : mClose ρ = setN (setN (mRaise (mRaise (mRaise (cl1 ρ) 0) 1) 2) 1 0) 0 (ρ 0 + 1) := by unfold mClose; rw [hQ, if_neg (by omega)]
              rw [show 1 + (mRaise (mRaise (mRaise (cl1 ρ) 0) 1) 2) 0 = ρ 0 + 1 by omega, ← hM] at hw
              exact hret _ _ _ (nI (scarce (cl1 ρ))) _ _ dX6_closeOn_139 hw rfl rfl ⟨rfl, rfl⟩
            refine lv_iconst (v := (nI 1)) hx hb dX6_closeOn_125 (by decide) ?_
            refine lv_goto (tgt := 130) hx hb dX6_closeOn_126 (by decide) ?_
            refine x_iast M hK hw 0 0 rfl rfl (by decide) (by decide) dX6_closeOn_130 (fun H locs hw => ?_)
            rw [upd_row] at hw
            have hw : xW G A s.heap [[(a, .inl (Y 0, 140, .inl (rowF (setN (mRaise (mRaise (mRaise (cl1 ρ) 0) 1) 2) 1 1))))]] H locs := hw
            refine lv_aload_n hx hb dX6_closeOn_131 rfl (lv_at hl 3 rfl) ?_
            refine lv_iconst (v := (nI 0)) hx hb dX6_closeOn_132 (by decide) ?_
            refine lv_dup2_11 hx hb dX6_closeOn_133 rfl rfl ?_
            refine x_iald M hK hw 0 0 rfl rfl (by decide) (by decide) dX6_closeOn_134 ?_
            refine x_topN (n := (mRaise (mRaise (mRaise (cl1 ρ) 0) 1) 2) 0) (congrArg nI ((setN_n (by omega)).trans rfl)) ?_
            refine lv_iconst (v := (nI 1)) hx hb dX6_closeOn_135 (by decide) ?_
            refine x_iadd M (n := 1 + (mRaise (mRaise (mRaise (cl1 ρ) 0) 1) 2) 0) dX6_closeOn_136 (by omega) ?_
            refine x_iast M hK hw 0 0 rfl rfl (by decide) (by decide) dX6_closeOn_137 (fun H locs hw => ?_)
            rw [upd_row] at hw
            have hw : xW G A s.heap [[(a, .inl (Y 0, 140, .inl (rowF (setN (setN (mRaise (mRaise (mRaise (cl1 ρ) 0) 1) 2) 1 1) 0 (1 + (mRaise (mRaise (mRaise (cl1 ρ) 0) 1) 2) 0)))))]] H locs := hw
            refine lv_iload_n hx hb dX6_closeOn_138 rfl (lv_at hl 2 rfl) ?_
            have hQ : clQ (cl1 ρ) = mRaise (mRaise (mRaise (cl1 ρ) 0) 1) 2 := by unfold clQ; rw [show clP (cl1 ρ) 0 = mRaise (cl1 ρ) 0 from if_pos c_9, show clP (mRaise (cl1 ρ) 0) 1 = mRaise (mRaise (cl1 ρ) 0) 1 from if_pos c_105, show clP (mRaise (mRaise (cl1 ρ) 0) 1) 2 = mRaise (mRaise (mRaise (cl1 ρ) 0) 1) 2 from if_pos c_165]
            have hM : mClose ρ = setN (setN (mRaise (mRaise (mRaise (cl1 ρ) 0) 1) 2) 1 1) 0 (ρ 0 + 1) := by unfold mClose; rw [hQ, if_pos (by omega)]
            rw [show 1 + (mRaise (mRaise (mRaise (cl1 ρ) 0) 1) 2) 0 = ρ 0 + 1 by omega, ← hM] at hw
            exact hret _ _ _ (nI (scarce (cl1 ρ))) _ _ dX6_closeOn_139 hw rfl rfl ⟨rfl, rfl⟩
          refine lv_iconst (v := (nI 1)) hx hb dX6_closeOn_103 (by decide) ?_
          refine lv_goto (tgt := 108) hx hb dX6_closeOn_104 (by decide) ?_
          refine x_iadd M (n := 1 + (mRaise (mRaise (cl1 ρ) 0) 1) 13) dX6_closeOn_108 (by omega) ?_
          refine x_cSI (As := [.int (nI 99999), .int (nI (1 + (mRaise (mRaise (cl1 ρ) 0) 1) 13))]) (k_X6_less l G Y 99999 (1 + (mRaise (mRaise (cl1 ρ) 0) 1) 13) (by omega) (by omega)) cw_X6_61 [] M hK hZ hw hl.1 rfl (by decide) ⟨by decide, by decide⟩ ⟨Nat.zero_le _, Nat.zero_le _⟩ rfl rfl (Nat.le_of_ble_eq_true rfl) dX6_closeOn_109 (fun r sg h_178 H locs hw => ?_)
          obtain ⟨rfl, rfl⟩ := h_178
          have hw : xW G A s.heap [[(a, .inl (Y 0, 140, .inl (rowF (mRaise (mRaise (cl1 ρ) 0) 1))))]] H locs := hw
          refine x_iast M hK hw 0 0 rfl rfl (by decide) (by decide) dX6_closeOn_112 (fun H locs hw => ?_)
          rw [upd_row] at hw
          have hw : xW G A s.heap [[(a, .inl (Y 0, 140, .inl (rowF (setN (mRaise (mRaise (cl1 ρ) 0) 1) 13 (min 99999 (1 + (mRaise (mRaise (cl1 ρ) 0) 1) 13))))))]] H locs := hw
          have hw := row_fold (i := 0) (f' := rowF (mRaise (mRaise (mRaise (cl1 ρ) 0) 1) 2)) hw rfl (fun q hq => congrArg nI (raise_row (k := 2) rfl (by omega)))
          have hw : xW G A s.heap [[(a, .inl (Y 0, 140, .inl (rowF (mRaise (mRaise (mRaise (cl1 ρ) 0) 1) 2))))]] H locs := hw
          have hI179 := Inv_raise hI159 (k := 2) (by decide)
          have := hI179.stepp
          have := hI179.n6
          have : (mRaise (mRaise (mRaise (cl1 ρ) 0) 1) 2) 5 = (mRaise (mRaise (cl1 ρ) 0) 1) 5 := raise_o (by decide)
          have : askedOf (mRaise (mRaise (mRaise (cl1 ρ) 0) 1) 2) 0 = askedOf (mRaise (mRaise (cl1 ρ) 0) 1) 0 := asked_raise (by decide)
          have : (mRaise (mRaise (mRaise (cl1 ρ) 0) 1) 2) 6 = (mRaise (mRaise (cl1 ρ) 0) 1) 6 := raise_o (by decide)
          have : askedOf (mRaise (mRaise (mRaise (cl1 ρ) 0) 1) 2) 1 = askedOf (mRaise (mRaise (cl1 ρ) 0) 1) 1 := asked_raise (by decide)
          have : askedOf (mRaise (mRaise (mRaise (cl1 ρ) 0) 1) 2) 2 = askedOf (mRaise (mRaise (cl1 ρ) 0) 1) 2 := asked_raise (by decide)
          have : (mRaise (mRaise (mRaise (cl1 ρ) 0) 1) 2) 0 = (mRaise (mRaise (cl1 ρ) 0) 1) 0 := raise_o (by decide)
          have : (mRaise (mRaise (mRaise (cl1 ρ) 0) 1) 2) 4 = (mRaise (mRaise (cl1 ρ) 0) 1) 4 := raise_o (by decide)
          have : (mRaise (mRaise (mRaise (cl1 ρ) 0) 1) 2) 5 = (mRaise (mRaise (cl1 ρ) 0) 1) 5 := raise_o (by decide)
          refine lv_iinc (v := (nI 3)) (lv' := [(2, .int (nI 3)), (3, .int (nI ((((mRaise (mRaise (cl1 ρ) 0) 1) 13) * ((mRaise (mRaise (cl1 ρ) 0) 1) 3)) / 100))), (1, .int (nI (scarce (cl1 ρ)))), (0, .ref a)]) hx hb dX6_closeOn_113 hl (k := 1) rfl (by decide) (by decide) rfl (fun ls hl => ?_)
          refine lv_goto (tgt := 53) hx hb dX6_closeOn_116 (by decide) ?_
          refine lv_iload_n hx hb dX6_closeOn_53 rfl (lv_at hl 0 rfl) ?_
          refine lv_iconst (v := (nI 3)) hx hb dX6_closeOn_54 (by decide) ?_
          refine x_cge M (tgt := 119) (by decide) (by decide) dX6_closeOn_55 (by decide) (fun c_180 => ?_) (fun c_180 => absurd c_180 (by decide))
          refine lv_aload_n hx hb dX6_closeOn_119 rfl (lv_at hl 3 rfl) ?_
          refine lv_iconst (v := (nI 1)) hx hb dX6_closeOn_120 (by decide) ?_
          refine lv_iload_n hx hb dX6_closeOn_121 rfl (lv_at hl 2 rfl) ?_
          refine x_zne M (tgt := 129) (by omega) dX6_closeOn_122 (by decide) (fun c_181 => ?_) (fun c_181 => ?_)
          · refine lv_iconst (v := (nI 0)) hx hb dX6_closeOn_129 (by decide) ?_
            refine x_iast M hK hw 0 0 rfl rfl (by decide) (by decide) dX6_closeOn_130 (fun H locs hw => ?_)
            rw [upd_row] at hw
            have hw : xW G A s.heap [[(a, .inl (Y 0, 140, .inl (rowF (setN (mRaise (mRaise (mRaise (cl1 ρ) 0) 1) 2) 1 0))))]] H locs := hw
            refine lv_aload_n hx hb dX6_closeOn_131 rfl (lv_at hl 3 rfl) ?_
            refine lv_iconst (v := (nI 0)) hx hb dX6_closeOn_132 (by decide) ?_
            refine lv_dup2_11 hx hb dX6_closeOn_133 rfl rfl ?_
            refine x_iald M hK hw 0 0 rfl rfl (by decide) (by decide) dX6_closeOn_134 ?_
            refine x_topN (n := (mRaise (mRaise (mRaise (cl1 ρ) 0) 1) 2) 0) (congrArg nI ((setN_n (by omega)).trans rfl)) ?_
            refine lv_iconst (v := (nI 1)) hx hb dX6_closeOn_135 (by decide) ?_
            refine x_iadd M (n := 1 + (mRaise (mRaise (mRaise (cl1 ρ) 0) 1) 2) 0) dX6_closeOn_136 (by omega) ?_
            refine x_iast M hK hw 0 0 rfl rfl (by decide) (by decide) dX6_closeOn_137 (fun H locs hw => ?_)
            rw [upd_row] at hw
            have hw : xW G A s.heap [[(a, .inl (Y 0, 140, .inl (rowF (setN (setN (mRaise (mRaise (mRaise (cl1 ρ) 0) 1) 2) 1 0) 0 (1 + (mRaise (mRaise (mRaise (cl1 ρ) 0) 1) 2) 0)))))]] H locs := hw
            refine lv_iload_n hx hb dX6_closeOn_138 rfl (lv_at hl 2 rfl) ?_
            have hQ : clQ (cl1 ρ) = mRaise (mRaise (mRaise (cl1 ρ) 0) 1) 2 := by unfold clQ; rw [show clP (cl1 ρ) 0 = mRaise (cl1 ρ) 0 from if_pos c_9, show clP (mRaise (cl1 ρ) 0) 1 = mRaise (mRaise (cl1 ρ) 0) 1 from if_pos c_105, show clP (mRaise (mRaise (cl1 ρ) 0) 1) 2 = mRaise (mRaise (mRaise (cl1 ρ) 0) 1) 2 from if_pos c_165]
            have hM : mClose ρ = setN (setN (mRaise (mRaise (mRaise (cl1 ρ) 0) 1) 2) 1 0) 0 (ρ 0 + 1) := by unfold mClose; rw [hQ, if_neg (by omega)]
            rw [show 1 + (mRaise (mRaise (mRaise (cl1 ρ) 0) 1) 2) 0 = ρ 0 + 1 by omega, ← hM] at hw
            exact hret _ _ _ (nI (scarce (cl1 ρ))) _ _ dX6_closeOn_139 hw rfl rfl ⟨rfl, rfl⟩
          refine lv_iconst (v := (nI 1)) hx hb dX6_closeOn_125 (by decide) ?_
          refine lv_goto (tgt := 130) hx hb dX6_closeOn_126 (by decide) ?_
          refine x_iast M hK hw 0 0 rfl rfl (by decide) (by decide) dX6_closeOn_130 (fun H locs hw => ?_)
          rw [upd_row] at hw
          have hw : xW G A s.heap [[(a, .inl (Y 0, 140, .inl (rowF (setN (mRaise (mRaise (mRaise (cl1 ρ) 0) 1) 2) 1 1))))]] H locs := hw
          refine lv_aload_n hx hb dX6_closeOn_131 rfl (lv_at hl 3 rfl) ?_
          refine lv_iconst (v := (nI 0)) hx hb dX6_closeOn_132 (by decide) ?_
          refine lv_dup2_11 hx hb dX6_closeOn_133 rfl rfl ?_
          refine x_iald M hK hw 0 0 rfl rfl (by decide) (by decide) dX6_closeOn_134 ?_
          refine x_topN (n := (mRaise (mRaise (mRaise (cl1 ρ) 0) 1) 2) 0) (congrArg nI ((setN_n (by omega)).trans rfl)) ?_
          refine lv_iconst (v := (nI 1)) hx hb dX6_closeOn_135 (by decide) ?_
          refine x_iadd M (n := 1 + (mRaise (mRaise (mRaise (cl1 ρ) 0) 1) 2) 0) dX6_closeOn_136 (by omega) ?_
          refine x_iast M hK hw 0 0 rfl rfl (by decide) (by decide) dX6_closeOn_137 (fun H locs hw => ?_)
          rw [upd_row] at hw
          have hw : xW G A s.heap [[(a, .inl (Y 0, 140, .inl (rowF (setN (setN (mRaise (mRaise (mRaise (cl1 ρ) 0) 1) 2) 1 1) 0 (1 + (mRaise (mRaise (mRaise (cl1 ρ) 0) 1) 2) 0)))))]] H locs := hw
          refine lv_iload_n hx hb dX6_closeOn_138 rfl (lv_at hl 2 rfl) ?_
          have hQ : clQ (cl1 ρ) = mRaise (mRaise (mRaise (cl1 ρ) 0) 1) 2 := by unfold clQ; rw [show clP (cl1 ρ) 0 = mRaise (cl1 ρ) 0 from if_pos c_9, show clP (mRaise (cl1 ρ) 0) 1 = mRaise (mRaise (cl1 ρ) 0) 1 from if_pos c_105, show clP (mRaise (mRaise (cl1 ρ) 0) 1) 2 = mRaise (mRaise (mRaise (cl1 ρ) 0) 1) 2 from if_pos c_165]
          have hM : mClose ρ = setN (setN (mRaise (mRaise (mRaise (cl1 ρ) 0) 1) 2) 1 1) 0 (ρ 0 + 1) := by unfold mClose; rw [hQ, if_pos (by omega)]
          rw [show 1 + (mRaise (mRaise (mRaise (cl1 ρ) 0) 1) 2) 0 = ρ 0 + 1 by omega, ← hM] at hw
          exact hret _ _ _ (nI (scarce (cl1 ρ))) _ _ dX6_closeOn_139 hw rfl rfl ⟨rfl, rfl⟩
        refine lv_iconst (v := (nI 1)) hx hb dX6_closeOn_103 (by decide) ?_
        refine lv_goto (tgt := 108) hx hb dX6_closeOn_104 (by decide) ?_
        refine x_iadd M (n := 1 + (cl1 ρ) 11) dX6_closeOn_108 (by omega) ?_
        refine x_cSI (As := [.int (nI 99999), .int (nI (1 + (cl1 ρ) 11))]) (k_X6_less l G Y 99999 (1 + (cl1 ρ) 11) (by omega) (by omega)) cw_X6_61 [] M hK hZ hw hl.1 rfl (by decide) ⟨by decide, by decide⟩ ⟨Nat.zero_le _, Nat.zero_le _⟩ rfl rfl (Nat.le_of_ble_eq_true rfl) dX6_closeOn_109 (fun r sg h_182 H locs hw => ?_)
        obtain ⟨rfl, rfl⟩ := h_182
        have hw : xW G A s.heap [[(a, .inl (Y 0, 140, .inl (rowF (cl1 ρ))))]] H locs := hw
        refine x_iast M hK hw 0 0 rfl rfl (by decide) (by decide) dX6_closeOn_112 (fun H locs hw => ?_)
        rw [upd_row] at hw
        have hw : xW G A s.heap [[(a, .inl (Y 0, 140, .inl (rowF (setN (cl1 ρ) 11 (min 99999 (1 + (cl1 ρ) 11))))))]] H locs := hw
        have hw := row_fold (i := 0) (f' := rowF (mRaise (cl1 ρ) 0)) hw rfl (fun q hq => congrArg nI (raise_row (k := 0) rfl (by omega)))
        have hw : xW G A s.heap [[(a, .inl (Y 0, 140, .inl (rowF (mRaise (cl1 ρ) 0))))]] H locs := hw
        have hI183 := Inv_raise hI1 (k := 0) (by decide)
        have := hI183.stepp
        have := hI183.n6
        have : askedOf (mRaise (cl1 ρ) 0) 0 = askedOf (cl1 ρ) 0 := asked_raise (by decide)
        have : (mRaise (cl1 ρ) 0) 6 = (cl1 ρ) 6 := raise_o (by decide)
        have : askedOf (mRaise (cl1 ρ) 0) 1 = askedOf (cl1 ρ) 1 := asked_raise (by decide)
        have : (mRaise (cl1 ρ) 0) 7 = (cl1 ρ) 7 := raise_o (by decide)
        have : askedOf (mRaise (cl1 ρ) 0) 2 = askedOf (cl1 ρ) 2 := asked_raise (by decide)
        have : (mRaise (cl1 ρ) 0) 0 = (cl1 ρ) 0 := raise_o (by decide)
        have : (mRaise (cl1 ρ) 0) 4 = (cl1 ρ) 4 := raise_o (by decide)
        have : (mRaise (cl1 ρ) 0) 5 = (cl1 ρ) 5 := raise_o (by decide)
        refine lv_iinc (v := (nI 1)) (lv' := [(2, .int (nI 1)), (3, .int (nI ((((cl1 ρ) 11) * ((cl1 ρ) 3)) / 100))), (1, .int (nI (scarce (cl1 ρ)))), (0, .ref a)]) hx hb dX6_closeOn_113 hl (k := 1) rfl (by decide) (by decide) rfl (fun ls hl => ?_)
        refine lv_goto (tgt := 53) hx hb dX6_closeOn_116 (by decide) ?_
        refine lv_iload_n hx hb dX6_closeOn_53 rfl (lv_at hl 0 rfl) ?_
        refine lv_iconst (v := (nI 3)) hx hb dX6_closeOn_54 (by decide) ?_
        refine x_cge M (tgt := 119) (by decide) (by decide) dX6_closeOn_55 (by decide) (fun c_184 => absurd c_184 (by decide)) (fun c_184 => ?_)
        refine lv_aload_n hx hb dX6_closeOn_58 rfl (lv_at hl 3 rfl) ?_
        refine lv_iload_n hx hb dX6_closeOn_59 rfl (lv_at hl 0 rfl) ?_
        refine x_cSI (As := [.ref a, .int (nI 1)]) (k_X6_asked l G Y a 1 (mRaise (cl1 ρ) 0) (hI183) (by omega)) cw_X6_53 [0] M hK hZ hw hl.1 rfl (by decide) ⟨by decide, by decide⟩ ⟨Nat.zero_le _, Nat.zero_le _⟩ rfl rfl (Nat.le_of_ble_eq_true rfl) dX6_closeOn_60 (fun r sg h_185 H locs hw => ?_)
        obtain ⟨rfl, rfl⟩ := h_185
        have hw : xW G A s.heap [[(a, .inl (Y 0, 140, .inl (rowF (mRaise (cl1 ρ) 0))))]] H locs := hw
        have q_186 : askedOf (mRaise (cl1 ρ) 0) 1 ≤ 54 := askedOf_le hI183 (by omega)
        refine lv_aload_n hx hb dX6_closeOn_63 rfl (lv_at hl 3 rfl) ?_
        refine lv_iconst (v := (nI 5)) hx hb dX6_closeOn_64 (by decide) ?_
        refine lv_iload_n hx hb dX6_closeOn_65 rfl (lv_at hl 0 rfl) ?_
        refine x_iadd M (n := 6) dX6_closeOn_66 rfl ?_
        refine x_iald M hK hw 0 0 rfl rfl (by decide) (by decide) dX6_closeOn_67 ?_
        refine x_topN (n := (mRaise (cl1 ρ) 0) 6) rfl ?_
        have q_187 : 1 ≤ (mRaise (cl1 ρ) 0) 6 := (hI183.sup (q := 6) (k := 1) (by decide) rfl).1
        have q_188 : (mRaise (cl1 ρ) 0) 6 ≤ 9 := (hI183.sup (q := 6) (k := 1) (by decide) rfl).2
        refine x_cle M (tgt := 113) (by omega) (by omega) dX6_closeOn_68 (by decide) (fun c_189 => ?_) (fun c_189 => ?_)
        · refine lv_iinc (v := (nI 2)) (lv' := [(2, .int (nI 2)), (3, .int (nI ((((cl1 ρ) 11) * ((cl1 ρ) 3)) / 100))), (1, .int (nI (scarce (cl1 ρ)))), (0, .ref a)]) hx hb dX6_closeOn_113 hl (k := 0) rfl (by decide) (by decide) rfl (fun ls hl => ?_)
          refine lv_goto (tgt := 53) hx hb dX6_closeOn_116 (by decide) ?_
          refine lv_iload_n hx hb dX6_closeOn_53 rfl (lv_at hl 0 rfl) ?_
          refine lv_iconst (v := (nI 3)) hx hb dX6_closeOn_54 (by decide) ?_
          refine x_cge M (tgt := 119) (by decide) (by decide) dX6_closeOn_55 (by decide) (fun c_190 => absurd c_190 (by decide)) (fun c_190 => ?_)
          refine lv_aload_n hx hb dX6_closeOn_58 rfl (lv_at hl 3 rfl) ?_
          refine lv_iload_n hx hb dX6_closeOn_59 rfl (lv_at hl 0 rfl) ?_
          refine x_cSI (As := [.ref a, .int (nI 2)]) (k_X6_asked l G Y a 2 (mRaise (cl1 ρ) 0) (hI183) (by omega)) cw_X6_53 [0] M hK hZ hw hl.1 rfl (by decide) ⟨by decide, by decide⟩ ⟨Nat.zero_le _, Nat.zero_le _⟩ rfl rfl (Nat.le_of_ble_eq_true rfl) dX6_closeOn_60 (fun r sg h_191 H locs hw => ?_)
          obtain ⟨rfl, rfl⟩ := h_191
          have hw : xW G A s.heap [[(a, .inl (Y 0, 140, .inl (rowF (mRaise (cl1 ρ) 0))))]] H locs := hw
          have q_192 : askedOf (mRaise (cl1 ρ) 0) 2 ≤ 54 := askedOf_le hI183 (by omega)
          refine lv_aload_n hx hb dX6_closeOn_63 rfl (lv_at hl 3 rfl) ?_
          refine lv_iconst (v := (nI 5)) hx hb dX6_closeOn_64 (by decide) ?_
          refine lv_iload_n hx hb dX6_closeOn_65 rfl (lv_at hl 0 rfl) ?_
          refine x_iadd M (n := 7) dX6_closeOn_66 rfl ?_
          refine x_iald M hK hw 0 0 rfl rfl (by decide) (by decide) dX6_closeOn_67 ?_
          refine x_topN (n := (mRaise (cl1 ρ) 0) 7) rfl ?_
          have q_193 : 1 ≤ (mRaise (cl1 ρ) 0) 7 := (hI183.sup (q := 7) (k := 2) (by decide) rfl).1
          have q_194 : (mRaise (cl1 ρ) 0) 7 ≤ 9 := (hI183.sup (q := 7) (k := 2) (by decide) rfl).2
          refine x_cle M (tgt := 113) (by omega) (by omega) dX6_closeOn_68 (by decide) (fun c_195 => ?_) (fun c_195 => ?_)
          · refine lv_iinc (v := (nI 3)) (lv' := [(2, .int (nI 3)), (3, .int (nI ((((cl1 ρ) 11) * ((cl1 ρ) 3)) / 100))), (1, .int (nI (scarce (cl1 ρ)))), (0, .ref a)]) hx hb dX6_closeOn_113 hl (k := 0) rfl (by decide) (by decide) rfl (fun ls hl => ?_)
            refine lv_goto (tgt := 53) hx hb dX6_closeOn_116 (by decide) ?_
            refine lv_iload_n hx hb dX6_closeOn_53 rfl (lv_at hl 0 rfl) ?_
            refine lv_iconst (v := (nI 3)) hx hb dX6_closeOn_54 (by decide) ?_
            refine x_cge M (tgt := 119) (by decide) (by decide) dX6_closeOn_55 (by decide) (fun c_196 => ?_) (fun c_196 => absurd c_196 (by decide))
            refine lv_aload_n hx hb dX6_closeOn_119 rfl (lv_at hl 3 rfl) ?_
            refine lv_iconst (v := (nI 1)) hx hb dX6_closeOn_120 (by decide) ?_
            refine lv_iload_n hx hb dX6_closeOn_121 rfl (lv_at hl 2 rfl) ?_
            refine x_zne M (tgt := 129) (by omega) dX6_closeOn_122 (by decide) (fun c_197 => ?_) (fun c_197 => ?_)
            · refine lv_iconst (v := (nI 0)) hx hb dX6_closeOn_129 (by decide) ?_
              refine x_iast M hK hw 0 0 rfl rfl (by decide) (by decide) dX6_closeOn_130 (fun H locs hw => ?_)
              rw [upd_row] at hw
              have hw : xW G A s.heap [[(a, .inl (Y 0, 140, .inl (rowF (setN (mRaise (cl1 ρ) 0) 1 0))))]] H locs := hw
              refine lv_aload_n hx hb dX6_closeOn_131 rfl (lv_at hl 3 rfl) ?_
              refine lv_iconst (v := (nI 0)) hx hb dX6_closeOn_132 (by decide) ?_
              refine lv_dup2_11 hx hb dX6_closeOn_133 rfl rfl ?_
              refine x_iald M hK hw 0 0 rfl rfl (by decide) (by decide) dX6_closeOn_134 ?_
              refine x_topN (n := (mRaise (cl1 ρ) 0) 0) (congrArg nI ((setN_n (by omega)).trans rfl)) ?_
              refine lv_iconst (v := (nI 1)) hx hb dX6_closeOn_135 (by decide) ?_
              refine x_iadd M (n := 1 + (mRaise (cl1 ρ) 0) 0) dX6_closeOn_136 (by omega) ?_
              refine x_iast M hK hw 0 0 rfl rfl (by decide) (by decide) dX6_closeOn_137 (fun H locs hw => ?_)
              rw [upd_row] at hw
              have hw : xW G A s.heap [[(a, .inl (Y 0, 140, .inl (rowF (setN (setN (mRaise (cl1 ρ) 0) 1 0) 0 (1 + (mRaise (cl1 ρ) 0) 0)))))]] H locs := hw
              refine lv_iload_n hx hb dX6_closeOn_138 rfl (lv_at hl 2 rfl) ?_
              have hQ : clQ (cl1 ρ) = mRaise (cl1 ρ) 0 := by unfold clQ; rw [show clP (cl1 ρ) 0 = mRaise (cl1 ρ) 0 from if_pos c_9, show clP (mRaise (cl1 ρ) 0) 1 = mRaise (cl1 ρ) 0 from if_neg (Nat.not_lt.mpr c_189), show clP (mRaise (cl1 ρ) 0) 2 = mRaise (cl1 ρ) 0 from if_neg (Nat.not_lt.mpr c_195)]
              have hM : mClose ρ = setN (setN (mRaise (cl1 ρ) 0) 1 0) 0 (ρ 0 + 1) := by unfold mClose; rw [hQ, if_neg (by omega)]
              rw [show 1 + (mRaise (cl1 ρ) 0) 0 = ρ 0 + 1 by omega, ← hM] at hw
              exact hret _ _ _ (nI (scarce (cl1 ρ))) _ _ dX6_closeOn_139 hw rfl rfl ⟨rfl, rfl⟩
            refine lv_iconst (v := (nI 1)) hx hb dX6_closeOn_125 (by decide) ?_
            refine lv_goto (tgt := 130) hx hb dX6_closeOn_126 (by decide) ?_
            refine x_iast M hK hw 0 0 rfl rfl (by decide) (by decide) dX6_closeOn_130 (fun H locs hw => ?_)
            rw [upd_row] at hw
            have hw : xW G A s.heap [[(a, .inl (Y 0, 140, .inl (rowF (setN (mRaise (cl1 ρ) 0) 1 1))))]] H locs := hw
            refine lv_aload_n hx hb dX6_closeOn_131 rfl (lv_at hl 3 rfl) ?_
            refine lv_iconst (v := (nI 0)) hx hb dX6_closeOn_132 (by decide) ?_
            refine lv_dup2_11 hx hb dX6_closeOn_133 rfl rfl ?_
            refine x_iald M hK hw 0 0 rfl rfl (by decide) (by decide) dX6_closeOn_134 ?_
            refine x_topN (n := (mRaise (cl1 ρ) 0) 0) (congrArg nI ((setN_n (by omega)).trans rfl)) ?_
            refine lv_iconst (v := (nI 1)) hx hb dX6_closeOn_135 (by decide) ?_
            refine x_iadd M (n := 1 + (mRaise (cl1 ρ) 0) 0) dX6_closeOn_136 (by omega) ?_
            refine x_iast M hK hw 0 0 rfl rfl (by decide) (by decide) dX6_closeOn_137 (fun H locs hw => ?_)
            rw [upd_row] at hw
            have hw : xW G A s.heap [[(a, .inl (Y 0, 140, .inl (rowF (setN (setN (mRaise (cl1 ρ) 0) 1 1) 0 (1 + (mRaise (cl1 ρ) 0) 0)))))]] H locs := hw
            refine lv_iload_n hx hb dX6_closeOn_138 rfl (lv_at hl 2 rfl) ?_
            have hQ : clQ (cl1 ρ) = mRaise (cl1 ρ) 0 := by unfold clQ; rw [show clP (cl1 ρ) 0 = mRaise (cl1 ρ) 0 from if_pos c_9, show clP (mRaise (cl1 ρ) 0) 1 = mRaise (cl1 ρ) 0 from if_neg (Nat.not_lt.mpr c_189), show clP (mRaise (cl1 ρ) 0) 2 = mRaise (cl1 ρ) 0 from if_neg (Nat.not_lt.mpr c_195)]
            have hM : mClose ρ = setN (setN (mRaise (cl1 ρ) 0) 1 1) 0 (ρ 0 + 1) := by unfold mClose; rw [hQ, if_pos (by omega)]
            rw [show 1 + (mRaise (cl1 ρ) 0) 0 = ρ 0 + 1 by omega, ← hM] at hw
            exact hret _ _ _ (nI (scarce (cl1 ρ))) _ _ dX6_closeOn_139 hw rfl rfl ⟨rfl, rfl⟩
          refine lv_aload_n hx hb dX6_closeOn_71 rfl (lv_at hl 3 rfl) ?_
          refine lv_bipush (v := (nI 11)) hx hb dX6_closeOn_72 (by decide) ?_
          refine lv_iload_n hx hb dX6_closeOn_74 rfl (lv_at hl 0 rfl) ?_
          refine x_iadd M (n := 13) dX6_closeOn_75 rfl ?_
          refine x_iald M hK hw 0 0 rfl rfl (by decide) (by decide) dX6_closeOn_76 ?_
          refine x_topN (n := (mRaise (cl1 ρ) 0) 13) rfl ?_
          have q_198 : 1 ≤ (mRaise (cl1 ρ) 0) 13 := (hI183.pri (q := 13) (k := 2) (by decide) rfl).1
          have q_199 : (mRaise (cl1 ρ) 0) 13 ≤ 99999 := (hI183.pri (q := 13) (k := 2) (by decide) rfl).2
          refine lv_aload_n hx hb dX6_closeOn_77 rfl (lv_at hl 3 rfl) ?_
          refine lv_iconst (v := (nI 3)) hx hb dX6_closeOn_78 (by decide) ?_
          refine x_iald M hK hw 0 0 rfl rfl (by decide) (by decide) dX6_closeOn_79 ?_
          refine x_topN (n := (mRaise (cl1 ρ) 0) 3) rfl ?_
          have q_200 : 1 ≤ (mRaise (cl1 ρ) 0) 3 := (hI183.stepp).1
          have q_201 : (mRaise (cl1 ρ) 0) 3 ≤ 50 := (hI183.stepp).2
          refine x_imul M (n := ((mRaise (cl1 ρ) 0) 13) * ((mRaise (cl1 ρ) 0) 3)) dX6_closeOn_80 rfl ?_
          have q_202 : ((mRaise (cl1 ρ) 0) 13) * ((mRaise (cl1 ρ) 0) 3) ≤ 4999950 := Nat.le_trans (Nat.mul_le_mul (show (mRaise (cl1 ρ) 0) 13 ≤ 99999 by omega) (show (mRaise (cl1 ρ) 0) 3 ≤ 50 by omega)) (by decide)
          refine lv_bipush (v := (nI 100)) hx hb dX6_closeOn_81 (by decide) ?_
          refine x_idiv M (n := (((mRaise (cl1 ρ) 0) 13) * ((mRaise (cl1 ρ) 0) 3)) / 100) dX6_closeOn_83 (by omega) (by omega) (by decide) rfl ?_
          refine lv_istore_n (lv' := [(3, .int (nI ((((mRaise (cl1 ρ) 0) 13) * ((mRaise (cl1 ρ) 0) 3)) / 100))), (2, .int (nI 2)), (1, .int (nI (scarce (cl1 ρ)))), (0, .ref a)]) hx hb dX6_closeOn_84 rfl hl (by decide) rfl (fun ls hl => ?_)
          refine lv_aload_n hx hb dX6_closeOn_85 rfl (lv_at hl 3 rfl) ?_
          refine lv_bipush (v := (nI 11)) hx hb dX6_closeOn_86 (by decide) ?_
          refine lv_iload_n hx hb dX6_closeOn_88 rfl (lv_at hl 1 rfl) ?_
          refine x_iadd M (n := 13) dX6_closeOn_89 rfl ?_
          refine lv_ldc (v := (nI 99999)) hx hb M.2.2.2.1 (M.2.2.2.2 _ mw_1137) dX6_closeOn_90 ?_
          refine lv_aload_n hx hb dX6_closeOn_92 rfl (lv_at hl 3 rfl) ?_
          refine lv_bipush (v := (nI 11)) hx hb dX6_closeOn_93 (by decide) ?_
          refine lv_iload_n hx hb dX6_closeOn_95 rfl (lv_at hl 1 rfl) ?_
          refine x_iadd M (n := 13) dX6_closeOn_96 rfl ?_
          refine x_iald M hK hw 0 0 rfl rfl (by decide) (by decide) dX6_closeOn_97 ?_
          refine x_topN (n := (mRaise (cl1 ρ) 0) 13) rfl ?_
          refine lv_iload_n hx hb dX6_closeOn_98 rfl (lv_at hl 0 rfl) ?_
          refine lv_iconst (v := (nI 1)) hx hb dX6_closeOn_99 (by decide) ?_
          refine x_cge M (tgt := 107) (by omega) (by decide) dX6_closeOn_100 (by decide) (fun c_203 => ?_) (fun c_203 => ?_)
          · refine lv_iload_n hx hb dX6_closeOn_107 rfl (lv_at hl 0 rfl) ?_
            refine x_iadd M (n := (mRaise (cl1 ρ) 0) 13 + ((((mRaise (cl1 ρ) 0) 13) * ((mRaise (cl1 ρ) 0) 3)) / 100)) dX6_closeOn_108 rfl ?_
            refine x_cSI (As := [.int (nI 99999), .int (nI ((mRaise (cl1 ρ) 0) 13 + ((((mRaise (cl1 ρ) 0) 13) * ((mRaise (cl1 ρ) 0) 3)) / 100)))]) (k_X6_less l G Y 99999 ((mRaise (cl1 ρ) 0) 13 + ((((mRaise (cl1 ρ) 0) 13) * ((mRaise (cl1 ρ) 0) 3)) / 100)) (by omega) (by omega)) cw_X6_61 [] M hK hZ hw hl.1 rfl (by decide) ⟨by decide, by decide⟩ ⟨Nat.zero_le _, Nat.zero_le _⟩ rfl rfl (Nat.le_of_ble_eq_true rfl) dX6_closeOn_109 (fun r sg h_204 H locs hw => ?_)
            obtain ⟨rfl, rfl⟩ := h_204
            have hw : xW G A s.heap [[(a, .inl (Y 0, 140, .inl (rowF (mRaise (cl1 ρ) 0))))]] H locs := hw
            refine x_iast M hK hw 0 0 rfl rfl (by decide) (by decide) dX6_closeOn_112 (fun H locs hw => ?_)
            rw [upd_row] at hw
            have hw : xW G A s.heap [[(a, .inl (Y 0, 140, .inl (rowF (setN (mRaise (cl1 ρ) 0) 13 (min 99999 ((mRaise (cl1 ρ) 0) 13 + ((((mRaise (cl1 ρ) 0) 13) * ((mRaise (cl1 ρ) 0) 3)) / 100)))))))]] H locs := hw
            have hw := row_fold (i := 0) (f' := rowF (mRaise (mRaise (cl1 ρ) 0) 2)) hw rfl (fun q hq => congrArg nI (raise_row (k := 2) rfl (by omega)))
            have hw : xW G A s.heap [[(a, .inl (Y 0, 140, .inl (rowF (mRaise (mRaise (cl1 ρ) 0) 2))))]] H locs := hw
            have hI205 := Inv_raise hI183 (k := 2) (by decide)
            have := hI205.stepp
            have := hI205.n6
            have : (mRaise (mRaise (cl1 ρ) 0) 2) 5 = (mRaise (cl1 ρ) 0) 5 := raise_o (by decide)
            have : askedOf (mRaise (mRaise (cl1 ρ) 0) 2) 0 = askedOf (mRaise (cl1 ρ) 0) 0 := asked_raise (by decide)
            have : (mRaise (mRaise (cl1 ρ) 0) 2) 6 = (mRaise (cl1 ρ) 0) 6 := raise_o (by decide)
            have : askedOf (mRaise (mRaise (cl1 ρ) 0) 2) 1 = askedOf (mRaise (cl1 ρ) 0) 1 := asked_raise (by decide)
            have : askedOf (mRaise (mRaise (cl1 ρ) 0) 2) 2 = askedOf (mRaise (cl1 ρ) 0) 2 := asked_raise (by decide)
            have : (mRaise (mRaise (cl1 ρ) 0) 2) 0 = (mRaise (cl1 ρ) 0) 0 := raise_o (by decide)
            have : (mRaise (mRaise (cl1 ρ) 0) 2) 4 = (mRaise (cl1 ρ) 0) 4 := raise_o (by decide)
            have : (mRaise (mRaise (cl1 ρ) 0) 2) 5 = (mRaise (cl1 ρ) 0) 5 := raise_o (by decide)
            refine lv_iinc (v := (nI 3)) (lv' := [(2, .int (nI 3)), (3, .int (nI ((((mRaise (cl1 ρ) 0) 13) * ((mRaise (cl1 ρ) 0) 3)) / 100))), (1, .int (nI (scarce (cl1 ρ)))), (0, .ref a)]) hx hb dX6_closeOn_113 hl (k := 1) rfl (by decide) (by decide) rfl (fun ls hl => ?_)
            refine lv_goto (tgt := 53) hx hb dX6_closeOn_116 (by decide) ?_
            refine lv_iload_n hx hb dX6_closeOn_53 rfl (lv_at hl 0 rfl) ?_
            refine lv_iconst (v := (nI 3)) hx hb dX6_closeOn_54 (by decide) ?_
            refine x_cge M (tgt := 119) (by decide) (by decide) dX6_closeOn_55 (by decide) (fun c_206 => ?_) (fun c_206 => absurd c_206 (by decide))
            refine lv_aload_n hx hb dX6_closeOn_119 rfl (lv_at hl 3 rfl) ?_
            refine lv_iconst (v := (nI 1)) hx hb dX6_closeOn_120 (by decide) ?_
            refine lv_iload_n hx hb dX6_closeOn_121 rfl (lv_at hl 2 rfl) ?_
            refine x_zne M (tgt := 129) (by omega) dX6_closeOn_122 (by decide) (fun c_207 => ?_) (fun c_207 => ?_)
            · refine lv_iconst (v := (nI 0)) hx hb dX6_closeOn_129 (by decide) ?_
              refine x_iast M hK hw 0 0 rfl rfl (by decide) (by decide) dX6_closeOn_130 (fun H locs hw => ?_)
              rw [upd_row] at hw
              have hw : xW G A s.heap [[(a, .inl (Y 0, 140, .inl (rowF (setN (mRaise (mRaise (cl1 ρ) 0) 2) 1 0))))]] H locs := hw
              refine lv_aload_n hx hb dX6_closeOn_131 rfl (lv_at hl 3 rfl) ?_
              refine lv_iconst (v := (nI 0)) hx hb dX6_closeOn_132 (by decide) ?_
              refine lv_dup2_11 hx hb dX6_closeOn_133 rfl rfl ?_
              refine x_iald M hK hw 0 0 rfl rfl (by decide) (by decide) dX6_closeOn_134 ?_
              refine x_topN (n := (mRaise (mRaise (cl1 ρ) 0) 2) 0) (congrArg nI ((setN_n (by omega)).trans rfl)) ?_
              refine lv_iconst (v := (nI 1)) hx hb dX6_closeOn_135 (by decide) ?_
              refine x_iadd M (n := 1 + (mRaise (mRaise (cl1 ρ) 0) 2) 0) dX6_closeOn_136 (by omega) ?_
              refine x_iast M hK hw 0 0 rfl rfl (by decide) (by decide) dX6_closeOn_137 (fun H locs hw => ?_)
              rw [upd_row] at hw
              have hw : xW G A s.heap [[(a, .inl (Y 0, 140, .inl (rowF (setN (setN (mRaise (mRaise (cl1 ρ) 0) 2) 1 0) 0 (1 + (mRaise (mRaise (cl1 ρ) 0) 2) 0)))))]] H locs := hw
              refine lv_iload_n hx hb dX6_closeOn_138 rfl (lv_at hl 2 rfl) ?_
              have hQ : clQ (cl1 ρ) = mRaise (mRaise (cl1 ρ) 0) 2 := by unfold clQ; rw [show clP (cl1 ρ) 0 = mRaise (cl1 ρ) 0 from if_pos c_9, show clP (mRaise (cl1 ρ) 0) 1 = mRaise (cl1 ρ) 0 from if_neg (Nat.not_lt.mpr c_189), show clP (mRaise (cl1 ρ) 0) 2 = mRaise (mRaise (cl1 ρ) 0) 2 from if_pos c_195]
              have hM : mClose ρ = setN (setN (mRaise (mRaise (cl1 ρ) 0) 2) 1 0) 0 (ρ 0 + 1) := by unfold mClose; rw [hQ, if_neg (by omega)]
              rw [show 1 + (mRaise (mRaise (cl1 ρ) 0) 2) 0 = ρ 0 + 1 by omega, ← hM] at hw
              exact hret _ _ _ (nI (scarce (cl1 ρ))) _ _ dX6_closeOn_139 hw rfl rfl ⟨rfl, rfl⟩
            refine lv_iconst (v := (nI 1)) hx hb dX6_closeOn_125 (by decide) ?_
            refine lv_goto (tgt := 130) hx hb dX6_closeOn_126 (by decide) ?_
            refine x_iast M hK hw 0 0 rfl rfl (by decide) (by decide) dX6_closeOn_130 (fun H locs hw => ?_)
            rw [upd_row] at hw
            have hw : xW G A s.heap [[(a, .inl (Y 0, 140, .inl (rowF (setN (mRaise (mRaise (cl1 ρ) 0) 2) 1 1))))]] H locs := hw
            refine lv_aload_n hx hb dX6_closeOn_131 rfl (lv_at hl 3 rfl) ?_
            refine lv_iconst (v := (nI 0)) hx hb dX6_closeOn_132 (by decide) ?_
            refine lv_dup2_11 hx hb dX6_closeOn_133 rfl rfl ?_
            refine x_iald M hK hw 0 0 rfl rfl (by decide) (by decide) dX6_closeOn_134 ?_
            refine x_topN (n := (mRaise (mRaise (cl1 ρ) 0) 2) 0) (congrArg nI ((setN_n (by omega)).trans rfl)) ?_
            refine lv_iconst (v := (nI 1)) hx hb dX6_closeOn_135 (by decide) ?_
            refine x_iadd M (n := 1 + (mRaise (mRaise (cl1 ρ) 0) 2) 0) dX6_closeOn_136 (by omega) ?_
            refine x_iast M hK hw 0 0 rfl rfl (by decide) (by decide) dX6_closeOn_137 (fun H locs hw => ?_)
            rw [upd_row] at hw
            have hw : xW G A s.heap [[(a, .inl (Y 0, 140, .inl (rowF (setN (setN (mRaise (mRaise (cl1 ρ) 0) 2) 1 1) 0 (1 + (mRaise (mRaise (cl1 ρ) 0) 2) 0)))))]] H locs := hw
            refine lv_iload_n hx hb dX6_closeOn_138 rfl (lv_at hl 2 rfl) ?_
            have hQ : clQ (cl1 ρ) = mRaise (mRaise (cl1 ρ) 0) 2 := by unfold clQ; rw [show clP (cl1 ρ) 0 = mRaise (cl1 ρ) 0 from if_pos c_9, show clP (mRaise (cl1 ρ) 0) 1 = mRaise (cl1 ρ) 0 from if_neg (Nat.not_lt.mpr c_189), show clP (mRaise (cl1 ρ) 0) 2 = mRaise (mRaise (cl1 ρ) 0) 2 from if_pos c_195]
            have hM : mClose ρ = setN (setN (mRaise (mRaise (cl1 ρ) 0) 2) 1 1) 0 (ρ 0 + 1) := by unfold mClose; rw [hQ, if_pos (by omega)]
            rw [show 1 + (mRaise (mRaise (cl1 ρ) 0) 2) 0 = ρ 0 + 1 by omega, ← hM] at hw
            exact hret _ _ _ (nI (scarce (cl1 ρ))) _ _ dX6_closeOn_139 hw rfl rfl ⟨rfl, rfl⟩
          refine lv_iconst (v := (nI 1)) hx hb dX6_closeOn_103 (by decide) ?_
          refine lv_goto (tgt := 108) hx hb dX6_closeOn_104 (by decide) ?_
          refine x_iadd M (n := 1 + (mRaise (cl1 ρ) 0) 13) dX6_closeOn_108 (by omega) ?_
          refine x_cSI (As := [.int (nI 99999), .int (nI (1 + (mRaise (cl1 ρ) 0) 13))]) (k_X6_less l G Y 99999 (1 + (mRaise (cl1 ρ) 0) 13) (by omega) (by omega)) cw_X6_61 [] M hK hZ hw hl.1 rfl (by decide) ⟨by decide, by decide⟩ ⟨Nat.zero_le _, Nat.zero_le _⟩ rfl rfl (Nat.le_of_ble_eq_true rfl) dX6_closeOn_109 (fun r sg h_208 H locs hw => ?_)
          obtain ⟨rfl, rfl⟩ := h_208
          have hw : xW G A s.heap [[(a, .inl (Y 0, 140, .inl (rowF (mRaise (cl1 ρ) 0))))]] H locs := hw
          refine x_iast M hK hw 0 0 rfl rfl (by decide) (by decide) dX6_closeOn_112 (fun H locs hw => ?_)
          rw [upd_row] at hw
          have hw : xW G A s.heap [[(a, .inl (Y 0, 140, .inl (rowF (setN (mRaise (cl1 ρ) 0) 13 (min 99999 (1 + (mRaise (cl1 ρ) 0) 13))))))]] H locs := hw
          have hw := row_fold (i := 0) (f' := rowF (mRaise (mRaise (cl1 ρ) 0) 2)) hw rfl (fun q hq => congrArg nI (raise_row (k := 2) rfl (by omega)))
          have hw : xW G A s.heap [[(a, .inl (Y 0, 140, .inl (rowF (mRaise (mRaise (cl1 ρ) 0) 2))))]] H locs := hw
          have hI209 := Inv_raise hI183 (k := 2) (by decide)
          have := hI209.stepp
          have := hI209.n6
          have : (mRaise (mRaise (cl1 ρ) 0) 2) 5 = (mRaise (cl1 ρ) 0) 5 := raise_o (by decide)
          have : askedOf (mRaise (mRaise (cl1 ρ) 0) 2) 0 = askedOf (mRaise (cl1 ρ) 0) 0 := asked_raise (by decide)
          have : (mRaise (mRaise (cl1 ρ) 0) 2) 6 = (mRaise (cl1 ρ) 0) 6 := raise_o (by decide)
          have : askedOf (mRaise (mRaise (cl1 ρ) 0) 2) 1 = askedOf (mRaise (cl1 ρ) 0) 1 := asked_raise (by decide)
          have : askedOf (mRaise (mRaise (cl1 ρ) 0) 2) 2 = askedOf (mRaise (cl1 ρ) 0) 2 := asked_raise (by decide)
          have : (mRaise (mRaise (cl1 ρ) 0) 2) 0 = (mRaise (cl1 ρ) 0) 0 := raise_o (by decide)
          have : (mRaise (mRaise (cl1 ρ) 0) 2) 4 = (mRaise (cl1 ρ) 0) 4 := raise_o (by decide)
          have : (mRaise (mRaise (cl1 ρ) 0) 2) 5 = (mRaise (cl1 ρ) 0) 5 := raise_o (by decide)
          refine lv_iinc (v := (nI 3)) (lv' := [(2, .int (nI 3)), (3, .int (nI ((((mRaise (cl1 ρ) 0) 13) * ((mRaise (cl1 ρ) 0) 3)) / 100))), (1, .int (nI (scarce (cl1 ρ)))), (0, .ref a)]) hx hb dX6_closeOn_113 hl (k := 1) rfl (by decide) (by decide) rfl (fun ls hl => ?_)
          refine lv_goto (tgt := 53) hx hb dX6_closeOn_116 (by decide) ?_
          refine lv_iload_n hx hb dX6_closeOn_53 rfl (lv_at hl 0 rfl) ?_
          refine lv_iconst (v := (nI 3)) hx hb dX6_closeOn_54 (by decide) ?_
          refine x_cge M (tgt := 119) (by decide) (by decide) dX6_closeOn_55 (by decide) (fun c_210 => ?_) (fun c_210 => absurd c_210 (by decide))
          refine lv_aload_n hx hb dX6_closeOn_119 rfl (lv_at hl 3 rfl) ?_
          refine lv_iconst (v := (nI 1)) hx hb dX6_closeOn_120 (by decide) ?_
          refine lv_iload_n hx hb dX6_closeOn_121 rfl (lv_at hl 2 rfl) ?_
          refine x_zne M (tgt := 129) (by omega) dX6_closeOn_122 (by decide) (fun c_211 => ?_) (fun c_211 => ?_)
          · refine lv_iconst (v := (nI 0)) hx hb dX6_closeOn_129 (by decide) ?_
            refine x_iast M hK hw 0 0 rfl rfl (by decide) (by decide) dX6_closeOn_130 (fun H locs hw => ?_)
            rw [upd_row] at hw
            have hw : xW G A s.heap [[(a, .inl (Y 0, 140, .inl (rowF (setN (mRaise (mRaise (cl1 ρ) 0) 2) 1 0))))]] H locs := hw
            refine lv_aload_n hx hb dX6_closeOn_131 rfl (lv_at hl 3 rfl) ?_
            refine lv_iconst (v := (nI 0)) hx hb dX6_closeOn_132 (by decide) ?_
            refine lv_dup2_11 hx hb dX6_closeOn_133 rfl rfl ?_
            refine x_iald M hK hw 0 0 rfl rfl (by decide) (by decide) dX6_closeOn_134 ?_
            refine x_topN (n := (mRaise (mRaise (cl1 ρ) 0) 2) 0) (congrArg nI ((setN_n (by omega)).trans rfl)) ?_
            refine lv_iconst (v := (nI 1)) hx hb dX6_closeOn_135 (by decide) ?_
            refine x_iadd M (n := 1 + (mRaise (mRaise (cl1 ρ) 0) 2) 0) dX6_closeOn_136 (by omega) ?_
            refine x_iast M hK hw 0 0 rfl rfl (by decide) (by decide) dX6_closeOn_137 (fun H locs hw => ?_)
            rw [upd_row] at hw
            have hw : xW G A s.heap [[(a, .inl (Y 0, 140, .inl (rowF (setN (setN (mRaise (mRaise (cl1 ρ) 0) 2) 1 0) 0 (1 + (mRaise (mRaise (cl1 ρ) 0) 2) 0)))))]] H locs := hw
            refine lv_iload_n hx hb dX6_closeOn_138 rfl (lv_at hl 2 rfl) ?_
            have hQ : clQ (cl1 ρ) = mRaise (mRaise (cl1 ρ) 0) 2 := by unfold clQ; rw [show clP (cl1 ρ) 0 = mRaise (cl1 ρ) 0 from if_pos c_9, show clP (mRaise (cl1 ρ) 0) 1 = mRaise (cl1 ρ) 0 from if_neg (Nat.not_lt.mpr c_189), show clP (mRaise (cl1 ρ) 0) 2 = mRaise (mRaise (cl1 ρ) 0) 2 from if_pos c_195]
            have hM : mClose ρ = setN (setN (mRaise (mRaise (cl1 ρ) 0) 2) 1 0) 0 (ρ 0 + 1) := by unfold mClose; rw [hQ, if_neg (by omega)]
            rw [show 1 + (mRaise (mRaise (cl1 ρ) 0) 2) 0 = ρ 0 + 1 by omega, ← hM] at hw
            exact hret _ _ _ (nI (scarce (cl1 ρ))) _ _ dX6_closeOn_139 hw rfl rfl ⟨rfl, rfl⟩
          refine lv_iconst (v := (nI 1)) hx hb dX6_closeOn_125 (by decide) ?_
          refine lv_goto (tgt := 130) hx hb dX6_closeOn_126 (by decide) ?_
          refine x_iast M hK hw 0 0 rfl rfl (by decide) (by decide) dX6_closeOn_130 (fun H locs hw => ?_)
          rw [upd_row] at hw
          have hw : xW G A s.heap [[(a, .inl (Y 0, 140, .inl (rowF (setN (mRaise (mRaise (cl1 ρ) 0) 2) 1 1))))]] H locs := hw
          refine lv_aload_n hx hb dX6_closeOn_131 rfl (lv_at hl 3 rfl) ?_
          refine lv_iconst (v := (nI 0)) hx hb dX6_closeOn_132 (by decide) ?_
          refine lv_dup2_11 hx hb dX6_closeOn_133 rfl rfl ?_
          refine x_iald M hK hw 0 0 rfl rfl (by decide) (by decide) dX6_closeOn_134 ?_
          refine x_topN (n := (mRaise (mRaise (cl1 ρ) 0) 2) 0) (congrArg nI ((setN_n (by omega)).trans rfl)) ?_
          refine lv_iconst (v := (nI 1)) hx hb dX6_closeOn_135 (by decide) ?_
          refine x_iadd M (n := 1 + (mRaise (mRaise (cl1 ρ) 0) 2) 0) dX6_closeOn_136 (by omega) ?_
          refine x_iast M hK hw 0 0 rfl rfl (by decide) (by decide) dX6_closeOn_137 (fun H locs hw => ?_)
          rw [upd_row] at hw
          have hw : xW G A s.heap [[(a, .inl (Y 0, 140, .inl (rowF (setN (setN (mRaise (mRaise (cl1 ρ) 0) 2) 1 1) 0 (1 + (mRaise (mRaise (cl1 ρ) 0) 2) 0)))))]] H locs := hw
          refine lv_iload_n hx hb dX6_closeOn_138 rfl (lv_at hl 2 rfl) ?_
          have hQ : clQ (cl1 ρ) = mRaise (mRaise (cl1 ρ) 0) 2 := by unfold clQ; rw [show clP (cl1 ρ) 0 = mRaise (cl1 ρ) 0 from if_pos c_9, show clP (mRaise (cl1 ρ) 0) 1 = mRaise (cl1 ρ) 0 from if_neg (Nat.not_lt.mpr c_189), show clP (mRaise (cl1 ρ) 0) 2 = mRaise (mRaise (cl1 ρ) 0) 2 from if_pos c_195]
          have hM : mClose ρ = setN (setN (mRaise (mRaise (cl1 ρ) 0) 2) 1 1) 0 (ρ 0 + 1) := by unfold mClose; rw [hQ, if_pos (by omega)]
          rw [show 1 + (mRaise (mRaise (cl1 ρ) 0) 2) 0 = ρ 0 + 1 by omega, ← hM] at hw
          exact hret _ _ _ (nI (scarce (cl1 ρ))) _ _ dX6_closeOn_139 hw rfl rfl ⟨rfl, rfl⟩
        refine lv_aload_n hx hb dX6_closeOn_71 rfl (lv_at hl 3 rfl) ?_
        refine lv_bipush (v := (nI 11)) hx hb dX6_closeOn_72 (by decide) ?_
        refine lv_iload_n hx hb dX6_closeOn_74 rfl (lv_at hl 0 rfl) ?_
        refine x_iadd M (n := 12) dX6_closeOn_75 rfl ?_
        refine x_iald M hK hw 0 0 rfl rfl (by decide) (by decide) dX6_closeOn_76 ?_
        refine x_topN (n := (mRaise (cl1 ρ) 0) 12) rfl ?_
        have q_212 : 1 ≤ (mRaise (cl1 ρ) 0) 12 := (hI183.pri (q := 12) (k := 1) (by decide) rfl).1
        have q_213 : (mRaise (cl1 ρ) 0) 12 ≤ 99999 := (hI183.pri (q := 12) (k := 1) (by decide) rfl).2
        refine lv_aload_n hx hb dX6_closeOn_77 rfl (lv_at hl 3 rfl) ?_
        refine lv_iconst (v := (nI 3)) hx hb dX6_closeOn_78 (by decide) ?_
        refine x_iald M hK hw 0 0 rfl rfl (by decide) (by decide) dX6_closeOn_79 ?_
        refine x_topN (n := (mRaise (cl1 ρ) 0) 3) rfl ?_
        have q_214 : 1 ≤ (mRaise (cl1 ρ) 0) 3 := (hI183.stepp).1
        have q_215 : (mRaise (cl1 ρ) 0) 3 ≤ 50 := (hI183.stepp).2
        refine x_imul M (n := ((mRaise (cl1 ρ) 0) 12) * ((mRaise (cl1 ρ) 0) 3)) dX6_closeOn_80 rfl ?_
        have q_216 : ((mRaise (cl1 ρ) 0) 12) * ((mRaise (cl1 ρ) 0) 3) ≤ 4999950 := Nat.le_trans (Nat.mul_le_mul (show (mRaise (cl1 ρ) 0) 12 ≤ 99999 by omega) (show (mRaise (cl1 ρ) 0) 3 ≤ 50 by omega)) (by decide)
        refine lv_bipush (v := (nI 100)) hx hb dX6_closeOn_81 (by decide) ?_
        refine x_idiv M (n := (((mRaise (cl1 ρ) 0) 12) * ((mRaise (cl1 ρ) 0) 3)) / 100) dX6_closeOn_83 (by omega) (by omega) (by decide) rfl ?_
        refine lv_istore_n (lv' := [(3, .int (nI ((((mRaise (cl1 ρ) 0) 12) * ((mRaise (cl1 ρ) 0) 3)) / 100))), (2, .int (nI 1)), (1, .int (nI (scarce (cl1 ρ)))), (0, .ref a)]) hx hb dX6_closeOn_84 rfl hl (by decide) rfl (fun ls hl => ?_)
        refine lv_aload_n hx hb dX6_closeOn_85 rfl (lv_at hl 3 rfl) ?_
        refine lv_bipush (v := (nI 11)) hx hb dX6_closeOn_86 (by decide) ?_
        refine lv_iload_n hx hb dX6_closeOn_88 rfl (lv_at hl 1 rfl) ?_
        refine x_iadd M (n := 12) dX6_closeOn_89 rfl ?_
        refine lv_ldc (v := (nI 99999)) hx hb M.2.2.2.1 (M.2.2.2.2 _ mw_1137) dX6_closeOn_90 ?_
        refine lv_aload_n hx hb dX6_closeOn_92 rfl (lv_at hl 3 rfl) ?_
        refine lv_bipush (v := (nI 11)) hx hb dX6_closeOn_93 (by decide) ?_
        refine lv_iload_n hx hb dX6_closeOn_95 rfl (lv_at hl 1 rfl) ?_
        refine x_iadd M (n := 12) dX6_closeOn_96 rfl ?_
        refine x_iald M hK hw 0 0 rfl rfl (by decide) (by decide) dX6_closeOn_97 ?_
        refine x_topN (n := (mRaise (cl1 ρ) 0) 12) rfl ?_
        refine lv_iload_n hx hb dX6_closeOn_98 rfl (lv_at hl 0 rfl) ?_
        refine lv_iconst (v := (nI 1)) hx hb dX6_closeOn_99 (by decide) ?_
        refine x_cge M (tgt := 107) (by omega) (by decide) dX6_closeOn_100 (by decide) (fun c_217 => ?_) (fun c_217 => ?_)
        · refine lv_iload_n hx hb dX6_closeOn_107 rfl (lv_at hl 0 rfl) ?_
          refine x_iadd M (n := (mRaise (cl1 ρ) 0) 12 + ((((mRaise (cl1 ρ) 0) 12) * ((mRaise (cl1 ρ) 0) 3)) / 100)) dX6_closeOn_108 rfl ?_
          refine x_cSI (As := [.int (nI 99999), .int (nI ((mRaise (cl1 ρ) 0) 12 + ((((mRaise (cl1 ρ) 0) 12) * ((mRaise (cl1 ρ) 0) 3)) / 100)))]) (k_X6_less l G Y 99999 ((mRaise (cl1 ρ) 0) 12 + ((((mRaise (cl1 ρ) 0) 12) * ((mRaise (cl1 ρ) 0) 3)) / 100)) (by omega) (by omega)) cw_X6_61 [] M hK hZ hw hl.1 rfl (by decide) ⟨by decide, by decide⟩ ⟨Nat.zero_le _, Nat.zero_le _⟩ rfl rfl (Nat.le_of_ble_eq_true rfl) dX6_closeOn_109 (fun r sg h_218 H locs hw => ?_)
          obtain ⟨rfl, rfl⟩ := h_218
          have hw : xW G A s.heap [[(a, .inl (Y 0, 140, .inl (rowF (mRaise (cl1 ρ) 0))))]] H locs := hw
          refine x_iast M hK hw 0 0 rfl rfl (by decide) (by decide) dX6_closeOn_112 (fun H locs hw => ?_)
          rw [upd_row] at hw
          have hw : xW G A s.heap [[(a, .inl (Y 0, 140, .inl (rowF (setN (mRaise (cl1 ρ) 0) 12 (min 99999 ((mRaise (cl1 ρ) 0) 12 + ((((mRaise (cl1 ρ) 0) 12) * ((mRaise (cl1 ρ) 0) 3)) / 100)))))))]] H locs := hw
          have hw := row_fold (i := 0) (f' := rowF (mRaise (mRaise (cl1 ρ) 0) 1)) hw rfl (fun q hq => congrArg nI (raise_row (k := 1) rfl (by omega)))
          have hw : xW G A s.heap [[(a, .inl (Y 0, 140, .inl (rowF (mRaise (mRaise (cl1 ρ) 0) 1))))]] H locs := hw
          have hI219 := Inv_raise hI183 (k := 1) (by decide)
          have := hI219.stepp
          have := hI219.n6
          have : (mRaise (mRaise (cl1 ρ) 0) 1) 5 = (mRaise (cl1 ρ) 0) 5 := raise_o (by decide)
          have : askedOf (mRaise (mRaise (cl1 ρ) 0) 1) 0 = askedOf (mRaise (cl1 ρ) 0) 0 := asked_raise (by decide)
          have : askedOf (mRaise (mRaise (cl1 ρ) 0) 1) 1 = askedOf (mRaise (cl1 ρ) 0) 1 := asked_raise (by decide)
          have : (mRaise (mRaise (cl1 ρ) 0) 1) 7 = (mRaise (cl1 ρ) 0) 7 := raise_o (by decide)
          have : askedOf (mRaise (mRaise (cl1 ρ) 0) 1) 2 = askedOf (mRaise (cl1 ρ) 0) 2 := asked_raise (by decide)
          have : (mRaise (mRaise (cl1 ρ) 0) 1) 0 = (mRaise (cl1 ρ) 0) 0 := raise_o (by decide)
          have : (mRaise (mRaise (cl1 ρ) 0) 1) 4 = (mRaise (cl1 ρ) 0) 4 := raise_o (by decide)
          have : (mRaise (mRaise (cl1 ρ) 0) 1) 5 = (mRaise (cl1 ρ) 0) 5 := raise_o (by decide)
          refine lv_iinc (v := (nI 2)) (lv' := [(2, .int (nI 2)), (3, .int (nI ((((mRaise (cl1 ρ) 0) 12) * ((mRaise (cl1 ρ) 0) 3)) / 100))), (1, .int (nI (scarce (cl1 ρ)))), (0, .ref a)]) hx hb dX6_closeOn_113 hl (k := 1) rfl (by decide) (by decide) rfl (fun ls hl => ?_)
          refine lv_goto (tgt := 53) hx hb dX6_closeOn_116 (by decide) ?_
          refine lv_iload_n hx hb dX6_closeOn_53 rfl (lv_at hl 0 rfl) ?_
          refine lv_iconst (v := (nI 3)) hx hb dX6_closeOn_54 (by decide) ?_
          refine x_cge M (tgt := 119) (by decide) (by decide) dX6_closeOn_55 (by decide) (fun c_220 => absurd c_220 (by decide)) (fun c_220 => ?_)
          refine lv_aload_n hx hb dX6_closeOn_58 rfl (lv_at hl 3 rfl) ?_
          refine lv_iload_n hx hb dX6_closeOn_59 rfl (lv_at hl 0 rfl) ?_
          refine x_cSI (As := [.ref a, .int (nI 2)]) (k_X6_asked l G Y a 2 (mRaise (mRaise (cl1 ρ) 0) 1) (hI219) (by omega)) cw_X6_53 [0] M hK hZ hw hl.1 rfl (by decide) ⟨by decide, by decide⟩ ⟨Nat.zero_le _, Nat.zero_le _⟩ rfl rfl (Nat.le_of_ble_eq_true rfl) dX6_closeOn_60 (fun r sg h_221 H locs hw => ?_)
          obtain ⟨rfl, rfl⟩ := h_221
          have hw : xW G A s.heap [[(a, .inl (Y 0, 140, .inl (rowF (mRaise (mRaise (cl1 ρ) 0) 1))))]] H locs := hw
          have q_222 : askedOf (mRaise (mRaise (cl1 ρ) 0) 1) 2 ≤ 54 := askedOf_le hI219 (by omega)
          refine lv_aload_n hx hb dX6_closeOn_63 rfl (lv_at hl 3 rfl) ?_
          refine lv_iconst (v := (nI 5)) hx hb dX6_closeOn_64 (by decide) ?_
          refine lv_iload_n hx hb dX6_closeOn_65 rfl (lv_at hl 0 rfl) ?_
          refine x_iadd M (n := 7) dX6_closeOn_66 rfl ?_
          refine x_iald M hK hw 0 0 rfl rfl (by decide) (by decide) dX6_closeOn_67 ?_
          refine x_topN (n := (mRaise (mRaise (cl1 ρ) 0) 1) 7) rfl ?_
          have q_223 : 1 ≤ (mRaise (mRaise (cl1 ρ) 0) 1) 7 := (hI219.sup (q := 7) (k := 2) (by decide) rfl).1
          have q_224 : (mRaise (mRaise (cl1 ρ) 0) 1) 7 ≤ 9 := (hI219.sup (q := 7) (k := 2) (by decide) rfl).2
          refine x_cle M (tgt := 113) (by omega) (by omega) dX6_closeOn_68 (by decide) (fun c_225 => ?_) (fun c_225 => ?_)
          · refine lv_iinc (v := (nI 3)) (lv' := [(2, .int (nI 3)), (3, .int (nI ((((mRaise (cl1 ρ) 0) 12) * ((mRaise (cl1 ρ) 0) 3)) / 100))), (1, .int (nI (scarce (cl1 ρ)))), (0, .ref a)]) hx hb dX6_closeOn_113 hl (k := 0) rfl (by decide) (by decide) rfl (fun ls hl => ?_)
            refine lv_goto (tgt := 53) hx hb dX6_closeOn_116 (by decide) ?_
            refine lv_iload_n hx hb dX6_closeOn_53 rfl (lv_at hl 0 rfl) ?_
            refine lv_iconst (v := (nI 3)) hx hb dX6_closeOn_54 (by decide) ?_
            refine x_cge M (tgt := 119) (by decide) (by decide) dX6_closeOn_55 (by decide) (fun c_226 => ?_) (fun c_226 => absurd c_226 (by decide))
            refine lv_aload_n hx hb dX6_closeOn_119 rfl (lv_at hl 3 rfl) ?_
            refine lv_iconst (v := (nI 1)) hx hb dX6_closeOn_120 (by decide) ?_
            refine lv_iload_n hx hb dX6_closeOn_121 rfl (lv_at hl 2 rfl) ?_
            refine x_zne M (tgt := 129) (by omega) dX6_closeOn_122 (by decide) (fun c_227 => ?_) (fun c_227 => ?_)
            · refine lv_iconst (v := (nI 0)) hx hb dX6_closeOn_129 (by decide) ?_
              refine x_iast M hK hw 0 0 rfl rfl (by decide) (by decide) dX6_closeOn_130 (fun H locs hw => ?_)
              rw [upd_row] at hw
              have hw : xW G A s.heap [[(a, .inl (Y 0, 140, .inl (rowF (setN (mRaise (mRaise (cl1 ρ) 0) 1) 1 0))))]] H locs := hw
              refine lv_aload_n hx hb dX6_closeOn_131 rfl (lv_at hl 3 rfl) ?_
              refine lv_iconst (v := (nI 0)) hx hb dX6_closeOn_132 (by decide) ?_
              refine lv_dup2_11 hx hb dX6_closeOn_133 rfl rfl ?_
              refine x_iald M hK hw 0 0 rfl rfl (by decide) (by decide) dX6_closeOn_134 ?_
              refine x_topN (n := (mRaise (mRaise (cl1 ρ) 0) 1) 0) (congrArg nI ((setN_n (by omega)).trans rfl)) ?_
              refine lv_iconst (v := (nI 1)) hx hb dX6_closeOn_135 (by decide) ?_
              refine x_iadd M (n := 1 + (mRaise (mRaise (cl1 ρ) 0) 1) 0) dX6_closeOn_136 (by omega) ?_
              refine x_iast M hK hw 0 0 rfl rfl (by decide) (by decide) dX6_closeOn_137 (fun H locs hw => ?_)
              rw [upd_row] at hw
              have hw : xW G A s.heap [[(a, .inl (Y 0, 140, .inl (rowF (setN (setN (mRaise (mRaise (cl1 ρ) 0) 1) 1 0) 0 (1 + (mRaise (mRaise (cl1 ρ) 0) 1) 0)))))]] H locs := hw
              refine lv_iload_n hx hb dX6_closeOn_138 rfl (lv_at hl 2 rfl) ?_
              have hQ : clQ (cl1 ρ) = mRaise (mRaise (cl1 ρ) 0) 1 := by unfold clQ; rw [show clP (cl1 ρ) 0 = mRaise (cl1 ρ) 0 from if_pos c_9, show clP (mRaise (cl1 ρ) 0) 1 = mRaise (mRaise (cl1 ρ) 0) 1 from if_pos c_189, show clP (mRaise (mRaise (cl1 ρ) 0) 1) 2 = mRaise (mRaise (cl1 ρ) 0) 1 from if_neg (Nat.not_lt.mpr c_225)]
              have hM : mClose ρ = setN (setN (mRaise (mRaise (cl1 ρ) 0) 1) 1 0) 0 (ρ 0 + 1) := by unfold mClose; rw [hQ, if_neg (by omega)]
              rw [show 1 + (mRaise (mRaise (cl1 ρ) 0) 1) 0 = ρ 0 + 1 by omega, ← hM] at hw
              exact hret _ _ _ (nI (scarce (cl1 ρ))) _ _ dX6_closeOn_139 hw rfl rfl ⟨rfl, rfl⟩
            refine lv_iconst (v := (nI 1)) hx hb dX6_closeOn_125 (by decide) ?_
            refine lv_goto (tgt := 130) hx hb dX6_closeOn_126 (by decide) ?_
            refine x_iast M hK hw 0 0 rfl rfl (by decide) (by decide) dX6_closeOn_130 (fun H locs hw => ?_)
            rw [upd_row] at hw
            have hw : xW G A s.heap [[(a, .inl (Y 0, 140, .inl (rowF (setN (mRaise (mRaise (cl1 ρ) 0) 1) 1 1))))]] H locs := hw
            refine lv_aload_n hx hb dX6_closeOn_131 rfl (lv_at hl 3 rfl) ?_
            refine lv_iconst (v := (nI 0)) hx hb dX6_closeOn_132 (by decide) ?_
            refine lv_dup2_11 hx hb dX6_closeOn_133 rfl rfl ?_
            refine x_iald M hK hw 0 0 rfl rfl (by decide) (by decide) dX6_closeOn_134 ?_
            refine x_topN (n := (mRaise (mRaise (cl1 ρ) 0) 1) 0) (congrArg nI ((setN_n (by omega)).trans rfl)) ?_
            refine lv_iconst (v := (nI 1)) hx hb dX6_closeOn_135 (by decide) ?_
            refine x_iadd M (n := 1 + (mRaise (mRaise (cl1 ρ) 0) 1) 0) dX6_closeOn_136 (by omega) ?_
            refine x_iast M hK hw 0 0 rfl rfl (by decide) (by decide) dX6_closeOn_137 (fun H locs hw => ?_)
            rw [upd_row] at hw
            have hw : xW G A s.heap [[(a, .inl (Y 0, 140, .inl (rowF (setN (setN (mRaise (mRaise (cl1 ρ) 0) 1) 1 1) 0 (1 + (mRaise (mRaise (cl1 ρ) 0) 1) 0)))))]] H locs := hw
            refine lv_iload_n hx hb dX6_closeOn_138 rfl (lv_at hl 2 rfl) ?_
            have hQ : clQ (cl1 ρ) = mRaise (mRaise (cl1 ρ) 0) 1 := by unfold clQ; rw [show clP (cl1 ρ) 0 = mRaise (cl1 ρ) 0 from if_pos c_9, show clP (mRaise (cl1 ρ) 0) 1 = mRaise (mRaise (cl1 ρ) 0) 1 from if_pos c_189, show clP (mRaise (mRaise (cl1 ρ) 0) 1) 2 = mRaise (mRaise (cl1 ρ) 0) 1 from if_neg (Nat.not_lt.mpr c_225)]
            have hM : mClose ρ = setN (setN (mRaise (mRaise (cl1 ρ) 0) 1) 1 1) 0 (ρ 0 + 1) := by unfold mClose; rw [hQ, if_pos (by omega)]
            rw [show 1 + (mRaise (mRaise (cl1 ρ) 0) 1) 0 = ρ 0 + 1 by omega, ← hM] at hw
            exact hret _ _ _ (nI (scarce (cl1 ρ))) _ _ dX6_closeOn_139 hw rfl rfl ⟨rfl, rfl⟩
          refine lv_aload_n hx hb dX6_closeOn_71 rfl (lv_at hl 3 rfl) ?_
          refine lv_bipush (v := (nI 11)) hx hb dX6_closeOn_72 (by decide) ?_
          refine lv_iload_n hx hb dX6_closeOn_74 rfl (lv_at hl 0 rfl) ?_
          refine x_iadd M (n := 13) dX6_closeOn_75 rfl ?_
          refine x_iald M hK hw 0 0 rfl rfl (by decide) (by decide) dX6_closeOn_76 ?_
          refine x_topN (n := (mRaise (mRaise (cl1 ρ) 0) 1) 13) rfl ?_
          have q_228 : 1 ≤ (mRaise (mRaise (cl1 ρ) 0) 1) 13 := (hI219.pri (q := 13) (k := 2) (by decide) rfl).1
          have q_229 : (mRaise (mRaise (cl1 ρ) 0) 1) 13 ≤ 99999 := (hI219.pri (q := 13) (k := 2) (by decide) rfl).2
          refine lv_aload_n hx hb dX6_closeOn_77 rfl (lv_at hl 3 rfl) ?_
          refine lv_iconst (v := (nI 3)) hx hb dX6_closeOn_78 (by decide) ?_
          refine x_iald M hK hw 0 0 rfl rfl (by decide) (by decide) dX6_closeOn_79 ?_
          refine x_topN (n := (mRaise (mRaise (cl1 ρ) 0) 1) 3) rfl ?_
          have q_230 : 1 ≤ (mRaise (mRaise (cl1 ρ) 0) 1) 3 := (hI219.stepp).1
          have q_231 : (mRaise (mRaise (cl1 ρ) 0) 1) 3 ≤ 50 := (hI219.stepp).2
          refine x_imul M (n := ((mRaise (mRaise (cl1 ρ) 0) 1) 13) * ((mRaise (mRaise (cl1 ρ) 0) 1) 3)) dX6_closeOn_80 rfl ?_
          have q_232 : ((mRaise (mRaise (cl1 ρ) 0) 1) 13) * ((mRaise (mRaise (cl1 ρ) 0) 1) 3) ≤ 4999950 := Nat.le_trans (Nat.mul_le_mul (show (mRaise (mRaise (cl1 ρ) 0) 1) 13 ≤ 99999 by omega) (show (mRaise (mRaise (cl1 ρ) 0) 1) 3 ≤ 50 by omega)) (by decide)
          refine lv_bipush (v := (nI 100)) hx hb dX6_closeOn_81 (by decide) ?_
          refine x_idiv M (n := (((mRaise (mRaise (cl1 ρ) 0) 1) 13) * ((mRaise (mRaise (cl1 ρ) 0) 1) 3)) / 100) dX6_closeOn_83 (by omega) (by omega) (by decide) rfl ?_
          refine lv_istore_n (lv' := [(3, .int (nI ((((mRaise (mRaise (cl1 ρ) 0) 1) 13) * ((mRaise (mRaise (cl1 ρ) 0) 1) 3)) / 100))), (2, .int (nI 2)), (1, .int (nI (scarce (cl1 ρ)))), (0, .ref a)]) hx hb dX6_closeOn_84 rfl hl (by decide) rfl (fun ls hl => ?_)
          refine lv_aload_n hx hb dX6_closeOn_85 rfl (lv_at hl 3 rfl) ?_
          refine lv_bipush (v := (nI 11)) hx hb dX6_closeOn_86 (by decide) ?_
          refine lv_iload_n hx hb dX6_closeOn_88 rfl (lv_at hl 1 rfl) ?_
          refine x_iadd M (n := 13) dX6_closeOn_89 rfl ?_
          refine lv_ldc (v := (nI 99999)) hx hb M.2.2.2.1 (M.2.2.2.2 _ mw_1137) dX6_closeOn_90 ?_
          refine lv_aload_n hx hb dX6_closeOn_92 rfl (lv_at hl 3 rfl) ?_
          refine lv_bipush (v := (nI 11)) hx hb dX6_closeOn_93 (by decide) ?_
          refine lv_iload_n hx hb dX6_closeOn_95 rfl (lv_at hl 1 rfl) ?_
          refine x_iadd M (n := 13) dX6_closeOn_96 rfl ?_
          refine x_iald M hK hw 0 0 rfl rfl (by decide) (by decide) dX6_closeOn_97 ?_
          refine x_topN (n := (mRaise (mRaise (cl1 ρ) 0) 1) 13) rfl ?_
          refine lv_iload_n hx hb dX6_closeOn_98 rfl (lv_at hl 0 rfl) ?_
          refine lv_iconst (v := (nI 1)) hx hb dX6_closeOn_99 (by decide) ?_
          refine x_cge M (tgt := 107) (by omega) (by decide) dX6_closeOn_100 (by decide) (fun c_233 => ?_) (fun c_233 => ?_)
          · refine lv_iload_n hx hb dX6_closeOn_107 rfl (lv_at hl 0 rfl) ?_
            refine x_iadd M (n := (mRaise (mRaise (cl1 ρ) 0) 1) 13 + ((((mRaise (mRaise (cl1 ρ) 0) 1) 13) * ((mRaise (mRaise (cl1 ρ) 0) 1) 3)) / 100)) dX6_closeOn_108 rfl ?_
            refine x_cSI (As := [.int (nI 99999), .int (nI ((mRaise (mRaise (cl1 ρ) 0) 1) 13 + ((((mRaise (mRaise (cl1 ρ) 0) 1) 13) * ((mRaise (mRaise (cl1 ρ) 0) 1) 3)) / 100)))]) (k_X6_less l G Y 99999 ((mRaise (mRaise (cl1 ρ) 0) 1) 13 + ((((mRaise (mRaise (cl1 ρ) 0) 1) 13) * ((mRaise (mRaise (cl1 ρ) 0) 1) 3)) / 100)) (by omega) (by omega)) cw_X6_61 [] M hK hZ hw hl.1 rfl (by decide) ⟨by decide, by decide⟩ ⟨Nat.zero_le _, Nat.zero_le _⟩ rfl rfl (Nat.le_of_ble_eq_true rfl) dX6_closeOn_109 (fun r sg h_234 H locs hw => ?_)
            obtain ⟨rfl, rfl⟩ := h_234
            have hw : xW G A s.heap [[(a, .inl (Y 0, 140, .inl (rowF (mRaise (mRaise (cl1 ρ) 0) 1))))]] H locs := hw
            refine x_iast M hK hw 0 0 rfl rfl (by decide) (by decide) dX6_closeOn_112 (fun H locs hw => ?_)
            rw [upd_row] at hw
            have hw : xW G A s.heap [[(a, .inl (Y 0, 140, .inl (rowF (setN (mRaise (mRaise (cl1 ρ) 0) 1) 13 (min 99999 ((mRaise (mRaise (cl1 ρ) 0) 1) 13 + ((((mRaise (mRaise (cl1 ρ) 0) 1) 13) * ((mRaise (mRaise (cl1 ρ) 0) 1) 3)) / 100)))))))]] H locs := hw
            have hw := row_fold (i := 0) (f' := rowF (mRaise (mRaise (mRaise (cl1 ρ) 0) 1) 2)) hw rfl (fun q hq => congrArg nI (raise_row (k := 2) rfl (by omega)))
            have hw : xW G A s.heap [[(a, .inl (Y 0, 140, .inl (rowF (mRaise (mRaise (mRaise (cl1 ρ) 0) 1) 2))))]] H locs := hw
            have hI235 := Inv_raise hI219 (k := 2) (by decide)
            have := hI235.stepp
            have := hI235.n6
            have : (mRaise (mRaise (mRaise (cl1 ρ) 0) 1) 2) 5 = (mRaise (mRaise (cl1 ρ) 0) 1) 5 := raise_o (by decide)
            have : askedOf (mRaise (mRaise (mRaise (cl1 ρ) 0) 1) 2) 0 = askedOf (mRaise (mRaise (cl1 ρ) 0) 1) 0 := asked_raise (by decide)
            have : (mRaise (mRaise (mRaise (cl1 ρ) 0) 1) 2) 6 = (mRaise (mRaise (cl1 ρ) 0) 1) 6 := raise_o (by decide)
            have : askedOf (mRaise (mRaise (mRaise (cl1 ρ) 0) 1) 2) 1 = askedOf (mRaise (mRaise (cl1 ρ) 0) 1) 1 := asked_raise (by decide)
            have : askedOf (mRaise (mRaise (mRaise (cl1 ρ) 0) 1) 2) 2 = askedOf (mRaise (mRaise (cl1 ρ) 0) 1) 2 := asked_raise (by decide)
            have : (mRaise (mRaise (mRaise (cl1 ρ) 0) 1) 2) 0 = (mRaise (mRaise (cl1 ρ) 0) 1) 0 := raise_o (by decide)
            have : (mRaise (mRaise (mRaise (cl1 ρ) 0) 1) 2) 4 = (mRaise (mRaise (cl1 ρ) 0) 1) 4 := raise_o (by decide)
            have : (mRaise (mRaise (mRaise (cl1 ρ) 0) 1) 2) 5 = (mRaise (mRaise (cl1 ρ) 0) 1) 5 := raise_o (by decide)
            refine lv_iinc (v := (nI 3)) (lv' := [(2, .int (nI 3)), (3, .int (nI ((((mRaise (mRaise (cl1 ρ) 0) 1) 13) * ((mRaise (mRaise (cl1 ρ) 0) 1) 3)) / 100))), (1, .int (nI (scarce (cl1 ρ)))), (0, .ref a)]) hx hb dX6_closeOn_113 hl (k := 1) rfl (by decide) (by decide) rfl (fun ls hl => ?_)
            refine lv_goto (tgt := 53) hx hb dX6_closeOn_116 (by decide) ?_
            refine lv_iload_n hx hb dX6_closeOn_53 rfl (lv_at hl 0 rfl) ?_
            refine lv_iconst (v := (nI 3)) hx hb dX6_closeOn_54 (by decide) ?_
            refine x_cge M (tgt := 119) (by decide) (by decide) dX6_closeOn_55 (by decide) (fun c_236 => ?_) (fun c_236 => absurd c_236 (by decide))
            refine lv_aload_n hx hb dX6_closeOn_119 rfl (lv_at hl 3 rfl) ?_
            refine lv_iconst (v := (nI 1)) hx hb dX6_closeOn_120 (by decide) ?_
            refine lv_iload_n hx hb dX6_closeOn_121 rfl (lv_at hl 2 rfl) ?_
            refine x_zne M (tgt := 129) (by omega) dX6_closeOn_122 (by decide) (fun c_237 => ?_) (fun c_237 => ?_)
            · refine lv_iconst (v := (nI 0)) hx hb dX6_closeOn_129 (by decide) ?_
              refine x_iast M hK hw 0 0 rfl rfl (by decide) (by decide) dX6_closeOn_130 (fun H locs hw => ?_)
              rw [upd_row] at hw
              have hw : xW G A s.heap [[(a, .inl (Y 0, 140, .inl (rowF (setN (mRaise (mRaise (mRaise (cl1 ρ) 0) 1) 2) 1 0))))]] H locs := hw
              refine lv_aload_n hx hb dX6_closeOn_131 rfl (lv_at hl 3 rfl) ?_
              refine lv_iconst (v := (nI 0)) hx hb dX6_closeOn_132 (by decide) ?_
              refine lv_dup2_11 hx hb dX6_closeOn_133 rfl rfl ?_
              refine x_iald M hK hw 0 0 rfl rfl (by decide) (by decide) dX6_closeOn_134 ?_
              refine x_topN (n := (mRaise (mRaise (mRaise (cl1 ρ) 0) 1) 2) 0) (congrArg nI ((setN_n (by omega)).trans rfl)) ?_
              refine lv_iconst (v := (nI 1)) hx hb dX6_closeOn_135 (by decide) ?_
              refine x_iadd M (n := 1 + (mRaise (mRaise (mRaise (cl1 ρ) 0) 1) 2) 0) dX6_closeOn_136 (by omega) ?_
              refine x_iast M hK hw 0 0 rfl rfl (by decide) (by decide) dX6_closeOn_137 (fun H locs hw => ?_)
              rw [upd_row] at hw
              have hw : xW G A s.heap [[(a, .inl (Y 0, 140, .inl (rowF (setN (setN (mRaise (mRaise (mRaise (cl1 ρ) 0) 1) 2) 1 0) 0 (1 + (mRaise (mRaise (mRaise (cl1 ρ) 0) 1) 2) 0)))))]] H locs := hw
              refine lv_iload_n hx hb dX6_closeOn_138 rfl (lv_at hl 2 rfl) ?_
              have hQ : clQ (cl1 ρ) = mRaise (mRaise (mRaise (cl1 ρ) 0) 1) 2 := by unfold clQ; rw [show clP (cl1 ρ) 0 = mRaise (cl1 ρ) 0 from if_pos c_9, show clP (mRaise (cl1 ρ) 0) 1 = mRaise (mRaise (cl1 ρ) 0) 1 from if_pos c_189, show clP (mRaise (mRaise (cl1 ρ) 0) 1) 2 = mRaise (mRaise (mRaise (cl1 ρ) 0) 1) 2 from if_pos c_225]
              have hM : mClose ρ = setN (setN (mRaise (mRaise (mRaise (cl1 ρ) 0) 1) 2) 1 0) 0 (ρ 0 + 1) := by unfold mClose; rw [hQ, if_neg (by omega)]
              rw [show 1 + (mRaise (mRaise (mRaise (cl1 ρ) 0) 1) 2) 0 = ρ 0 + 1 by omega, ← hM] at hw
              exact hret _ _ _ (nI (scarce (cl1 ρ))) _ _ dX6_closeOn_139 hw rfl rfl ⟨rfl, rfl⟩
            refine lv_iconst (v := (nI 1)) hx hb dX6_closeOn_125 (by decide) ?_
            refine lv_goto (tgt := 130) hx hb dX6_closeOn_126 (by decide) ?_
            refine x_iast M hK hw 0 0 rfl rfl (by decide) (by decide) dX6_closeOn_130 (fun H locs hw => ?_)
            rw [upd_row] at hw
            have hw : xW G A s.heap [[(a, .inl (Y 0, 140, .inl (rowF (setN (mRaise (mRaise (mRaise (cl1 ρ) 0) 1) 2) 1 1))))]] H locs := hw
            refine lv_aload_n hx hb dX6_closeOn_131 rfl (lv_at hl 3 rfl) ?_
            refine lv_iconst (v := (nI 0)) hx hb dX6_closeOn_132 (by decide) ?_
            refine lv_dup2_11 hx hb dX6_closeOn_133 rfl rfl ?_
            refine x_iald M hK hw 0 0 rfl rfl (by decide) (by decide) dX6_closeOn_134 ?_
            refine x_topN (n := (mRaise (mRaise (mRaise (cl1 ρ) 0) 1) 2) 0) (congrArg nI ((setN_n (by omega)).trans rfl)) ?_
            refine lv_iconst (v := (nI 1)) hx hb dX6_closeOn_135 (by decide) ?_
            refine x_iadd M (n := 1 + (mRaise (mRaise (mRaise (cl1 ρ) 0) 1) 2) 0) dX6_closeOn_136 (by omega) ?_
            refine x_iast M hK hw 0 0 rfl rfl (by decide) (by decide) dX6_closeOn_137 (fun H locs hw => ?_)
            rw [upd_row] at hw
            have hw : xW G A s.heap [[(a, .inl (Y 0, 140, .inl (rowF (setN (setN (mRaise (mRaise (mRaise (cl1 ρ) 0) 1) 2) 1 1) 0 (1 + (mRaise (mRaise (mRaise (cl1 ρ) 0) 1) 2) 0)))))]] H locs := hw
            refine lv_iload_n hx hb dX6_closeOn_138 rfl (lv_at hl 2 rfl) ?_
            have hQ : clQ (cl1 ρ) = mRaise (mRaise (mRaise (cl1 ρ) 0) 1) 2 := by unfold clQ; rw [show clP (cl1 ρ) 0 = mRaise (cl1 ρ) 0 from if_pos c_9, show clP (mRaise (cl1 ρ) 0) 1 = mRaise (mRaise (cl1 ρ) 0) 1 from if_pos c_189, show clP (mRaise (mRaise (cl1 ρ) 0) 1) 2 = mRaise (mRaise (mRaise (cl1 ρ) 0) 1) 2 from if_pos c_225]
            have hM : mClose ρ = setN (setN (mRaise (mRaise (mRaise (cl1 ρ) 0) 1) 2) 1 1) 0 (ρ 0 + 1) := by unfold mClose; rw [hQ, if_pos (by omega)]
            rw [show 1 + (mRaise (mRaise (mRaise (cl1 ρ) 0) 1) 2) 0 = ρ 0 + 1 by omega, ← hM] at hw
            exact hret _ _ _ (nI (scarce (cl1 ρ))) _ _ dX6_closeOn_139 hw rfl rfl ⟨rfl, rfl⟩
          refine lv_iconst (v := (nI 1)) hx hb dX6_closeOn_103 (by decide) ?_
          refine lv_goto (tgt := 108) hx hb dX6_closeOn_104 (by decide) ?_
          refine x_iadd M (n := 1 + (mRaise (mRaise (cl1 ρ) 0) 1) 13) dX6_closeOn_108 (by omega) ?_
          refine x_cSI (As := [.int (nI 99999), .int (nI (1 + (mRaise (mRaise (cl1 ρ) 0) 1) 13))]) (k_X6_less l G Y 99999 (1 + (mRaise (mRaise (cl1 ρ) 0) 1) 13) (by omega) (by omega)) cw_X6_61 [] M hK hZ hw hl.1 rfl (by decide) ⟨by decide, by decide⟩ ⟨Nat.zero_le _, Nat.zero_le _⟩ rfl rfl (Nat.le_of_ble_eq_true rfl) dX6_closeOn_109 (fun r sg h_238 H locs hw => ?_)
          obtain ⟨rfl, rfl⟩ := h_238
          have hw : xW G A s.heap [[(a, .inl (Y 0, 140, .inl (rowF (mRaise (mRaise (cl1 ρ) 0) 1))))]] H locs := hw
          refine x_iast M hK hw 0 0 rfl rfl (by decide) (by decide) dX6_closeOn_112 (fun H locs hw => ?_)
          rw [upd_row] at hw
          have hw : xW G A s.heap [[(a, .inl (Y 0, 140, .inl (rowF (setN (mRaise (mRaise (cl1 ρ) 0) 1) 13 (min 99999 (1 + (mRaise (mRaise (cl1 ρ) 0) 1) 13))))))]] H locs := hw
          have hw := row_fold (i := 0) (f' := rowF (mRaise (mRaise (mRaise (cl1 ρ) 0) 1) 2)) hw rfl (fun q hq => congrArg nI (raise_row (k := 2) rfl (by omega)))
          have hw : xW G A s.heap [[(a, .inl (Y 0, 140, .inl (rowF (mRaise (mRaise (mRaise (cl1 ρ) 0) 1) 2))))]] H locs := hw
          have hI239 := Inv_raise hI219 (k := 2) (by decide)
          have := hI239.stepp
          have := hI239.n6
          have : (mRaise (mRaise (mRaise (cl1 ρ) 0) 1) 2) 5 = (mRaise (mRaise (cl1 ρ) 0) 1) 5 := raise_o (by decide)
          have : askedOf (mRaise (mRaise (mRaise (cl1 ρ) 0) 1) 2) 0 = askedOf (mRaise (mRaise (cl1 ρ) 0) 1) 0 := asked_raise (by decide)
          have : (mRaise (mRaise (mRaise (cl1 ρ) 0) 1) 2) 6 = (mRaise (mRaise (cl1 ρ) 0) 1) 6 := raise_o (by decide)
          have : askedOf (mRaise (mRaise (mRaise (cl1 ρ) 0) 1) 2) 1 = askedOf (mRaise (mRaise (cl1 ρ) 0) 1) 1 := asked_raise (by decide)
          have : askedOf (mRaise (mRaise (mRaise (cl1 ρ) 0) 1) 2) 2 = askedOf (mRaise (mRaise (cl1 ρ) 0) 1) 2 := asked_raise (by decide)
          have : (mRaise (mRaise (mRaise (cl1 ρ) 0) 1) 2) 0 = (mRaise (mRaise (cl1 ρ) 0) 1) 0 := raise_o (by decide)
          have : (mRaise (mRaise (mRaise (cl1 ρ) 0) 1) 2) 4 = (mRaise (mRaise (cl1 ρ) 0) 1) 4 := raise_o (by decide)
          have : (mRaise (mRaise (mRaise (cl1 ρ) 0) 1) 2) 5 = (mRaise (mRaise (cl1 ρ) 0) 1) 5 := raise_o (by decide)
          refine lv_iinc (v := (nI 3)) (lv' := [(2, .int (nI 3)), (3, .int (nI ((((mRaise (mRaise (cl1 ρ) 0) 1) 13) * ((mRaise (mRaise (cl1 ρ) 0) 1) 3)) / 100))), (1, .int (nI (scarce (cl1 ρ)))), (0, .ref a)]) hx hb dX6_closeOn_113 hl (k := 1) rfl (by decide) (by decide) rfl (fun ls hl => ?_)
          refine lv_goto (tgt := 53) hx hb dX6_closeOn_116 (by decide) ?_
          refine lv_iload_n hx hb dX6_closeOn_53 rfl (lv_at hl 0 rfl) ?_
          refine lv_iconst (v := (nI 3)) hx hb dX6_closeOn_54 (by decide) ?_
          refine x_cge M (tgt := 119) (by decide) (by decide) dX6_closeOn_55 (by decide) (fun c_240 => ?_) (fun c_240 => absurd c_240 (by decide))
          refine lv_aload_n hx hb dX6_closeOn_119 rfl (lv_at hl 3 rfl) ?_
          refine lv_iconst (v := (nI 1)) hx hb dX6_closeOn_120 (by decide) ?_
          refine lv_iload_n hx hb dX6_closeOn_121 rfl (lv_at hl 2 rfl) ?_
          refine x_zne M (tgt := 129) (by omega) dX6_closeOn_122 (by decide) (fun c_241 => ?_) (fun c_241 => ?_)
          · refine lv_iconst (v := (nI 0)) hx hb dX6_closeOn_129 (by decide) ?_
            refine x_iast M hK hw 0 0 rfl rfl (by decide) (by decide) dX6_closeOn_130 (fun H locs hw => ?_)
            rw [upd_row] at hw
            have hw : xW G A s.heap [[(a, .inl (Y 0, 140, .inl (rowF (setN (mRaise (mRaise (mRaise (cl1 ρ) 0) 1) 2) 1 0))))]] H locs := hw
            refine lv_aload_n hx hb dX6_closeOn_131 rfl (lv_at hl 3 rfl) ?_
            refine lv_iconst (v := (nI 0)) hx hb dX6_closeOn_132 (by decide) ?_
            refine lv_dup2_11 hx hb dX6_closeOn_133 rfl rfl ?_
            refine x_iald M hK hw 0 0 rfl rfl (by decide) (by decide) dX6_closeOn_134 ?_
            refine x_topN (n := (mRaise (mRaise (mRaise (cl1 ρ) 0) 1) 2) 0) (congrArg nI ((setN_n (by omega)).trans rfl)) ?_
            refine lv_iconst (v := (nI 1)) hx hb dX6_closeOn_135 (by decide) ?_
            refine x_iadd M (n := 1 + (mRaise (mRaise (mRaise (cl1 ρ) 0) 1) 2) 0) dX6_closeOn_136 (by omega) ?_
            refine x_iast M hK hw 0 0 rfl rfl (by decide) (by decide) dX6_closeOn_137 (fun H locs hw => ?_)
            rw [upd_row] at hw
            have hw : xW G A s.heap [[(a, .inl (Y 0, 140, .inl (rowF (setN (setN (mRaise (mRaise (mRaise (cl1 ρ) 0) 1) 2) 1 0) 0 (1 + (mRaise (mRaise (mRaise (cl1 ρ) 0) 1) 2) 0)))))]] H locs := hw
            refine lv_iload_n hx hb dX6_closeOn_138 rfl (lv_at hl 2 rfl) ?_
            have hQ : clQ (cl1 ρ) = mRaise (mRaise (mRaise (cl1 ρ) 0) 1) 2 := by unfold clQ; rw [show clP (cl1 ρ) 0 = mRaise (cl1 ρ) 0 from if_pos c_9, show clP (mRaise (cl1 ρ) 0) 1 = mRaise (mRaise (cl1 ρ) 0) 1 from if_pos c_189, show clP (mRaise (mRaise (cl1 ρ) 0) 1) 2 = mRaise (mRaise (mRaise (cl1 ρ) 0) 1) 2 from if_pos c_225]
            have hM : mClose ρ = setN (setN (mRaise (mRaise (mRaise (cl1 ρ) 0) 1) 2) 1 0) 0 (ρ 0 + 1) := by unfold mClose; rw [hQ, if_neg (by omega)]
            rw [show 1 + (mRaise (mRaise (mRaise (cl1 ρ) 0) 1) 2) 0 = ρ 0 + 1 by omega, ← hM] at hw
            exact hret _ _ _ (nI (scarce (cl1 ρ))) _ _ dX6_closeOn_139 hw rfl rfl ⟨rfl, rfl⟩
          refine lv_iconst (v := (nI 1)) hx hb dX6_closeOn_125 (by decide) ?_
          refine lv_goto (tgt := 130) hx hb dX6_closeOn_126 (by decide) ?_
          refine x_iast M hK hw 0 0 rfl rfl (by decide) (by decide) dX6_closeOn_130 (fun H locs hw => ?_)
          rw [upd_row] at hw
          have hw : xW G A s.heap [[(a, .inl (Y 0, 140, .inl (rowF (setN (mRaise (mRaise (mRaise (cl1 ρ) 0) 1) 2) 1 1))))]] H locs := hw
          refine lv_aload_n hx hb dX6_closeOn_131 rfl (lv_at hl 3 rfl) ?_
          refine lv_iconst (v := (nI 0)) hx hb dX6_closeOn_132 (by decide) ?_
          refine lv_dup2_11 hx hb dX6_closeOn_133 rfl rfl ?_
          refine x_iald M hK hw 0 0 rfl rfl (by decide) (by decide) dX6_closeOn_134 ?_
          refine x_topN (n := (mRaise (mRaise (mRaise (cl1 ρ) 0) 1) 2) 0) (congrArg nI ((setN_n (by omega)).trans rfl)) ?_
          refine lv_iconst (v := (nI 1)) hx hb dX6_closeOn_135 (by decide) ?_
          refine x_iadd M (n := 1 + (mRaise (mRaise (mRaise (cl1 ρ) 0) 1) 2) 0) dX6_closeOn_136 (by omega) ?_
          refine x_iast M hK hw 0 0 rfl rfl (by decide) (by decide) dX6_closeOn_137 (fun H locs hw => ?_)
          rw [upd_row] at hw
          have hw : xW G A s.heap [[(a, .inl (Y 0, 140, .inl (rowF (setN (setN (mRaise (mRaise (mRaise (cl1 ρ) 0) 1) 2) 1 1) 0 (1 + (mRaise (mRaise (mRaise (cl1 ρ) 0) 1) 2) 0)))))]] H locs := hw
          refine lv_iload_n hx hb dX6_closeOn_138 rfl (lv_at hl 2 rfl) ?_
          have hQ : clQ (cl1 ρ) = mRaise (mRaise (mRaise (cl1 ρ) 0) 1) 2 := by unfold clQ; rw [show clP (cl1 ρ) 0 = mRaise (cl1 ρ) 0 from if_pos c_9, show clP (mRaise (cl1 ρ) 0) 1 = mRaise (mRaise (cl1 ρ) 0) 1 from if_pos c_189, show clP (mRaise (mRaise (cl1 ρ) 0) 1) 2 = mRaise (mRaise (mRaise (cl1 ρ) 0) 1) 2 from if_pos c_225]
          have hM : mClose ρ = setN (setN (mRaise (mRaise (mRaise (cl1 ρ) 0) 1) 2) 1 1) 0 (ρ 0 + 1) := by unfold mClose; rw [hQ, if_pos (by omega)]
          rw [show 1 + (mRaise (mRaise (mRaise (cl1 ρ) 0) 1) 2) 0 = ρ 0 + 1 by omega, ← hM] at hw
          exact hret _ _ _ (nI (scarce (cl1 ρ))) _ _ dX6_closeOn_139 hw rfl rfl ⟨rfl, rfl⟩
        refine lv_iconst (v := (nI 1)) hx hb dX6_closeOn_103 (by decide) ?_
        refine lv_goto (tgt := 108) hx hb dX6_closeOn_104 (by decide) ?_
        refine x_iadd M (n := 1 + (mRaise (cl1 ρ) 0) 12) dX6_closeOn_108 (by omega) ?_
        refine x_cSI (As := [.int (nI 99999), .int (nI (1 + (mRaise (cl1 ρ) 0) 12))]) (k_X6_less l G Y 99999 (1 + (mRaise (cl1 ρ) 0) 12) (by omega) (by omega)) cw_X6_61 [] M hK hZ hw hl.1 rfl (by decide) ⟨by decide, by decide⟩ ⟨Nat.zero_le _, Nat.zero_le _⟩ rfl rfl (Nat.le_of_ble_eq_true rfl) dX6_closeOn_109 (fun r sg h_242 H locs hw => ?_)
        obtain ⟨rfl, rfl⟩ := h_242
        have hw : xW G A s.heap [[(a, .inl (Y 0, 140, .inl (rowF (mRaise (cl1 ρ) 0))))]] H locs := hw
        refine x_iast M hK hw 0 0 rfl rfl (by decide) (by decide) dX6_closeOn_112 (fun H locs hw => ?_)
        rw [upd_row] at hw
        have hw : xW G A s.heap [[(a, .inl (Y 0, 140, .inl (rowF (setN (mRaise (cl1 ρ) 0) 12 (min 99999 (1 + (mRaise (cl1 ρ) 0) 12))))))]] H locs := hw
        have hw := row_fold (i := 0) (f' := rowF (mRaise (mRaise (cl1 ρ) 0) 1)) hw rfl (fun q hq => congrArg nI (raise_row (k := 1) rfl (by omega)))
        have hw : xW G A s.heap [[(a, .inl (Y 0, 140, .inl (rowF (mRaise (mRaise (cl1 ρ) 0) 1))))]] H locs := hw
        have hI243 := Inv_raise hI183 (k := 1) (by decide)
        have := hI243.stepp
        have := hI243.n6
        have : (mRaise (mRaise (cl1 ρ) 0) 1) 5 = (mRaise (cl1 ρ) 0) 5 := raise_o (by decide)
        have : askedOf (mRaise (mRaise (cl1 ρ) 0) 1) 0 = askedOf (mRaise (cl1 ρ) 0) 0 := asked_raise (by decide)
        have : askedOf (mRaise (mRaise (cl1 ρ) 0) 1) 1 = askedOf (mRaise (cl1 ρ) 0) 1 := asked_raise (by decide)
        have : (mRaise (mRaise (cl1 ρ) 0) 1) 7 = (mRaise (cl1 ρ) 0) 7 := raise_o (by decide)
        have : askedOf (mRaise (mRaise (cl1 ρ) 0) 1) 2 = askedOf (mRaise (cl1 ρ) 0) 2 := asked_raise (by decide)
        have : (mRaise (mRaise (cl1 ρ) 0) 1) 0 = (mRaise (cl1 ρ) 0) 0 := raise_o (by decide)
        have : (mRaise (mRaise (cl1 ρ) 0) 1) 4 = (mRaise (cl1 ρ) 0) 4 := raise_o (by decide)
        have : (mRaise (mRaise (cl1 ρ) 0) 1) 5 = (mRaise (cl1 ρ) 0) 5 := raise_o (by decide)
        refine lv_iinc (v := (nI 2)) (lv' := [(2, .int (nI 2)), (3, .int (nI ((((mRaise (cl1 ρ) 0) 12) * ((mRaise (cl1 ρ) 0) 3)) / 100))), (1, .int (nI (scarce (cl1 ρ)))), (0, .ref a)]) hx hb dX6_closeOn_113 hl (k := 1) rfl (by decide) (by decide) rfl (fun ls hl => ?_)
        refine lv_goto (tgt := 53) hx hb dX6_closeOn_116 (by decide) ?_
        refine lv_iload_n hx hb dX6_closeOn_53 rfl (lv_at hl 0 rfl) ?_
        refine lv_iconst (v := (nI 3)) hx hb dX6_closeOn_54 (by decide) ?_
        refine x_cge M (tgt := 119) (by decide) (by decide) dX6_closeOn_55 (by decide) (fun c_244 => absurd c_244 (by decide)) (fun c_244 => ?_)
        refine lv_aload_n hx hb dX6_closeOn_58 rfl (lv_at hl 3 rfl) ?_
        refine lv_iload_n hx hb dX6_closeOn_59 rfl (lv_at hl 0 rfl) ?_
        refine x_cSI (As := [.ref a, .int (nI 2)]) (k_X6_asked l G Y a 2 (mRaise (mRaise (cl1 ρ) 0) 1) (hI243) (by omega)) cw_X6_53 [0] M hK hZ hw hl.1 rfl (by decide) ⟨by decide, by decide⟩ ⟨Nat.zero_le _, Nat.zero_le _⟩ rfl rfl (Nat.le_of_ble_eq_true rfl) dX6_closeOn_60 (fun r sg h_245 H locs hw => ?_)
        obtain ⟨rfl, rfl⟩ := h_245
        have hw : xW G A s.heap [[(a, .inl (Y 0, 140, .inl (rowF (mRaise (mRaise (cl1 ρ) 0) 1))))]] H locs := hw
        have q_246 : askedOf (mRaise (mRaise (cl1 ρ) 0) 1) 2 ≤ 54 := askedOf_le hI243 (by omega)
        refine lv_aload_n hx hb dX6_closeOn_63 rfl (lv_at hl 3 rfl) ?_
        refine lv_iconst (v := (nI 5)) hx hb dX6_closeOn_64 (by decide) ?_
        refine lv_iload_n hx hb dX6_closeOn_65 rfl (lv_at hl 0 rfl) ?_
        refine x_iadd M (n := 7) dX6_closeOn_66 rfl ?_
        refine x_iald M hK hw 0 0 rfl rfl (by decide) (by decide) dX6_closeOn_67 ?_
        refine x_topN (n := (mRaise (mRaise (cl1 ρ) 0) 1) 7) rfl ?_
        have q_247 : 1 ≤ (mRaise (mRaise (cl1 ρ) 0) 1) 7 := (hI243.sup (q := 7) (k := 2) (by decide) rfl).1
        have q_248 : (mRaise (mRaise (cl1 ρ) 0) 1) 7 ≤ 9 := (hI243.sup (q := 7) (k := 2) (by decide) rfl).2
        refine x_cle M (tgt := 113) (by omega) (by omega) dX6_closeOn_68 (by decide) (fun c_249 => ?_) (fun c_249 => ?_)
        · refine lv_iinc (v := (nI 3)) (lv' := [(2, .int (nI 3)), (3, .int (nI ((((mRaise (cl1 ρ) 0) 12) * ((mRaise (cl1 ρ) 0) 3)) / 100))), (1, .int (nI (scarce (cl1 ρ)))), (0, .ref a)]) hx hb dX6_closeOn_113 hl (k := 0) rfl (by decide) (by decide) rfl (fun ls hl => ?_)
          refine lv_goto (tgt := 53) hx hb dX6_closeOn_116 (by decide) ?_
          refine lv_iload_n hx hb dX6_closeOn_53 rfl (lv_at hl 0 rfl) ?_
          refine lv_iconst (v := (nI 3)) hx hb dX6_closeOn_54 (by decide) ?_
          refine x_cge M (tgt := 119) (by decide) (by decide) dX6_closeOn_55 (by decide) (fun c_250 => ?_) (fun c_250 => absurd c_250 (by decide))
          refine lv_aload_n hx hb dX6_closeOn_119 rfl (lv_at hl 3 rfl) ?_
          refine lv_iconst (v := (nI 1)) hx hb dX6_closeOn_120 (by decide) ?_
          refine lv_iload_n hx hb dX6_closeOn_121 rfl (lv_at hl 2 rfl) ?_
          refine x_zne M (tgt := 129) (by omega) dX6_closeOn_122 (by decide) (fun c_251 => ?_) (fun c_251 => ?_)
          · refine lv_iconst (v := (nI 0)) hx hb dX6_closeOn_129 (by decide) ?_
            refine x_iast M hK hw 0 0 rfl rfl (by decide) (by decide) dX6_closeOn_130 (fun H locs hw => ?_)
            rw [upd_row] at hw
            have hw : xW G A s.heap [[(a, .inl (Y 0, 140, .inl (rowF (setN (mRaise (mRaise (cl1 ρ) 0) 1) 1 0))))]] H locs := hw
            refine lv_aload_n hx hb dX6_closeOn_131 rfl (lv_at hl 3 rfl) ?_
            refine lv_iconst (v := (nI 0)) hx hb dX6_closeOn_132 (by decide) ?_
            refine lv_dup2_11 hx hb dX6_closeOn_133 rfl rfl ?_
            refine x_iald M hK hw 0 0 rfl rfl (by decide) (by decide) dX6_closeOn_134 ?_
            refine x_topN (n := (mRaise (mRaise (cl1 ρ) 0) 1) 0) (congrArg nI ((setN_n (by omega)).trans rfl)) ?_
            refine lv_iconst (v := (nI 1)) hx hb dX6_closeOn_135 (by decide) ?_
            refine x_iadd M (n := 1 + (mRaise (mRaise (cl1 ρ) 0) 1) 0) dX6_closeOn_136 (by omega) ?_
            refine x_iast M hK hw 0 0 rfl rfl (by decide) (by decide) dX6_closeOn_137 (fun H locs hw => ?_)
            rw [upd_row] at hw
            have hw : xW G A s.heap [[(a, .inl (Y 0, 140, .inl (rowF (setN (setN (mRaise (mRaise (cl1 ρ) 0) 1) 1 0) 0 (1 + (mRaise (mRaise (cl1 ρ) 0) 1) 0)))))]] H locs := hw
            refine lv_iload_n hx hb dX6_closeOn_138 rfl (lv_at hl 2 rfl) ?_
            have hQ : clQ (cl1 ρ) = mRaise (mRaise (cl1 ρ) 0) 1 := by unfold clQ; rw [show clP (cl1 ρ) 0 = mRaise (cl1 ρ) 0 from if_pos c_9, show clP (mRaise (cl1 ρ) 0) 1 = mRaise (mRaise (cl1 ρ) 0) 1 from if_pos c_189, show clP (mRaise (mRaise (cl1 ρ) 0) 1) 2 = mRaise (mRaise (cl1 ρ) 0) 1 from if_neg (Nat.not_lt.mpr c_249)]
            have hM : mClose ρ = setN (setN (mRaise (mRaise (cl1 ρ) 0) 1) 1 0) 0 (ρ 0 + 1) := by unfold mClose; rw [hQ, if_neg (by omega)]
            rw [show 1 + (mRaise (mRaise (cl1 ρ) 0) 1) 0 = ρ 0 + 1 by omega, ← hM] at hw
            exact hret _ _ _ (nI (scarce (cl1 ρ))) _ _ dX6_closeOn_139 hw rfl rfl ⟨rfl, rfl⟩
          refine lv_iconst (v := (nI 1)) hx hb dX6_closeOn_125 (by decide) ?_
          refine lv_goto (tgt := 130) hx hb dX6_closeOn_126 (by decide) ?_
          refine x_iast M hK hw 0 0 rfl rfl (by decide) (by decide) dX6_closeOn_130 (fun H locs hw => ?_)
          rw [upd_row] at hw
          have hw : xW G A s.heap [[(a, .inl (Y 0, 140, .inl (rowF (setN (mRaise (mRaise (cl1 ρ) 0) 1) 1 1))))]] H locs := hw
          refine lv_aload_n hx hb dX6_closeOn_131 rfl (lv_at hl 3 rfl) ?_
          refine lv_iconst (v := (nI 0)) hx hb dX6_closeOn_132 (by decide) ?_
          refine lv_dup2_11 hx hb dX6_closeOn_133 rfl rfl ?_
          refine x_iald M hK hw 0 0 rfl rfl (by decide) (by decide) dX6_closeOn_134 ?_
          refine x_topN (n := (mRaise (mRaise (cl1 ρ) 0) 1) 0) (congrArg nI ((setN_n (by omega)).trans rfl)) ?_
          refine lv_iconst (v := (nI 1)) hx hb dX6_closeOn_135 (by decide) ?_
          refine x_iadd M (n := 1 + (mRaise (mRaise (cl1 ρ) 0) 1) 0) dX6_closeOn_136 (by omega) ?_
          refine x_iast M hK hw 0 0 rfl rfl (by decide) (by decide) dX6_closeOn_137 (fun H locs hw => ?_)
          rw [upd_row] at hw
          have hw : xW G A s.heap [[(a, .inl (Y 0, 140, .inl (rowF (setN (setN (mRaise (mRaise (cl1 ρ) 0) 1) 1 1) 0 (1 + (mRaise (mRaise (cl1 ρ) 0) 1) 0)))))]] H locs := hw
          refine lv_iload_n hx hb dX6_closeOn_138 rfl (lv_at hl 2 rfl) ?_
          have hQ : clQ (cl1 ρ) = mRaise (mRaise (cl1 ρ) 0) 1 := by unfold clQ; rw [show clP (cl1 ρ) 0 = mRaise (cl1 ρ) 0 from if_pos c_9, show clP (mRaise (cl1 ρ) 0) 1 = mRaise (mRaise (cl1 ρ) 0) 1 from if_pos c_189, show clP (mRaise (mRaise (cl1 ρ) 0) 1) 2 = mRaise (mRaise (cl1 ρ) 0) 1 from if_neg (Nat.not_lt.mpr c_249)]
          have hM : mClose ρ = setN (setN (mRaise (mRaise (cl1 ρ) 0) 1) 1 1) 0 (ρ 0 + 1) := by unfold mClose; rw [hQ, if_pos (by omega)]
          rw [show 1 + (mRaise (mRaise (cl1 ρ) 0) 1) 0 = ρ 0 + 1 by omega, ← hM] at hw
          exact hret _ _ _ (nI (scarce (cl1 ρ))) _ _ dX6_closeOn_139 hw rfl rfl ⟨rfl, rfl⟩
        refine lv_aload_n hx hb dX6_closeOn_71 rfl (lv_at hl 3 rfl) ?_
        refine lv_bipush (v := (nI 11)) hx hb dX6_closeOn_72 (by decide) ?_
        refine lv_iload_n hx hb dX6_closeOn_74 rfl (lv_at hl 0 rfl) ?_
        refine x_iadd M (n := 13) dX6_closeOn_75 rfl ?_
        refine x_iald M hK hw 0 0 rfl rfl (by decide) (by decide) dX6_closeOn_76 ?_
        refine x_topN (n := (mRaise (mRaise (cl1 ρ) 0) 1) 13) rfl ?_
        have q_252 : 1 ≤ (mRaise (mRaise (cl1 ρ) 0) 1) 13 := (hI243.pri (q := 13) (k := 2) (by decide) rfl).1
        have q_253 : (mRaise (mRaise (cl1 ρ) 0) 1) 13 ≤ 99999 := (hI243.pri (q := 13) (k := 2) (by decide) rfl).2
        refine lv_aload_n hx hb dX6_closeOn_77 rfl (lv_at hl 3 rfl) ?_
        refine lv_iconst (v := (nI 3)) hx hb dX6_closeOn_78 (by decide) ?_
        refine x_iald M hK hw 0 0 rfl rfl (by decide) (by decide) dX6_closeOn_79 ?_
        refine x_topN (n := (mRaise (mRaise (cl1 ρ) 0) 1) 3) rfl ?_
        have q_254 : 1 ≤ (mRaise (mRaise (cl1 ρ) 0) 1) 3 := (hI243.stepp).1
        have q_255 : (mRaise (mRaise (cl1 ρ) 0) 1) 3 ≤ 50 := (hI243.stepp).2
        refine x_imul M (n := ((mRaise (mRaise (cl1 ρ) 0) 1) 13) * ((mRaise (mRaise (cl1 ρ) 0) 1) 3)) dX6_closeOn_80 rfl ?_
        have q_256 : ((mRaise (mRaise (cl1 ρ) 0) 1) 13) * ((mRaise (mRaise (cl1 ρ) 0) 1) 3) ≤ 4999950 := Nat.le_trans (Nat.mul_le_mul (show (mRaise (mRaise (cl1 ρ) 0) 1) 13 ≤ 99999 by omega) (show (mRaise (mRaise (cl1 ρ) 0) 1) 3 ≤ 50 by omega)) (by decide)
        refine lv_bipush (v := (nI 100)) hx hb dX6_closeOn_81 (by decide) ?_
        refine x_idiv M (n := (((mRaise (mRaise (cl1 ρ) 0) 1) 13) * ((mRaise (mRaise (cl1 ρ) 0) 1) 3)) / 100) dX6_closeOn_83 (by omega) (by omega) (by decide) rfl ?_
        refine lv_istore_n (lv' := [(3, .int (nI ((((mRaise (mRaise (cl1 ρ) 0) 1) 13) * ((mRaise (mRaise (cl1 ρ) 0) 1) 3)) / 100))), (2, .int (nI 2)), (1, .int (nI (scarce (cl1 ρ)))), (0, .ref a)]) hx hb dX6_closeOn_84 rfl hl (by decide) rfl (fun ls hl => ?_)
        refine lv_aload_n hx hb dX6_closeOn_85 rfl (lv_at hl 3 rfl) ?_
        refine lv_bipush (v := (nI 11)) hx hb dX6_closeOn_86 (by decide) ?_
        refine lv_iload_n hx hb dX6_closeOn_88 rfl (lv_at hl 1 rfl) ?_
        refine x_iadd M (n := 13) dX6_closeOn_89 rfl ?_
        refine lv_ldc (v := (nI 99999)) hx hb M.2.2.2.1 (M.2.2.2.2 _ mw_1137) dX6_closeOn_90 ?_
        refine lv_aload_n hx hb dX6_closeOn_92 rfl (lv_at hl 3 rfl) ?_
        refine lv_bipush (v := (nI 11)) hx hb dX6_closeOn_93 (by decide) ?_
        refine lv_iload_n hx hb dX6_closeOn_95 rfl (lv_at hl 1 rfl) ?_
        refine x_iadd M (n := 13) dX6_closeOn_96 rfl ?_
        refine x_iald M hK hw 0 0 rfl rfl (by decide) (by decide) dX6_closeOn_97 ?_
        refine x_topN (n := (mRaise (mRaise (cl1 ρ) 0) 1) 13) rfl ?_
        refine lv_iload_n hx hb dX6_closeOn_98 rfl (lv_at hl 0 rfl) ?_
        refine lv_iconst (v := (nI 1)) hx hb dX6_closeOn_99 (by decide) ?_
        refine x_cge M (tgt := 107) (by omega) (by decide) dX6_closeOn_100 (by decide) (fun c_257 => ?_) (fun c_257 => ?_)
        · refine lv_iload_n hx hb dX6_closeOn_107 rfl (lv_at hl 0 rfl) ?_
          refine x_iadd M (n := (mRaise (mRaise (cl1 ρ) 0) 1) 13 + ((((mRaise (mRaise (cl1 ρ) 0) 1) 13) * ((mRaise (mRaise (cl1 ρ) 0) 1) 3)) / 100)) dX6_closeOn_108 rfl ?_
          refine x_cSI (As := [.int (nI 99999), .int (nI ((mRaise (mRaise (cl1 ρ) 0) 1) 13 + ((((mRaise (mRaise (cl1 ρ) 0) 1) 13) * ((mRaise (mRaise (cl1 ρ) 0) 1) 3)) / 100)))]) (k_X6_less l G Y 99999 ((mRaise (mRaise (cl1 ρ) 0) 1) 13 + ((((mRaise (mRaise (cl1 ρ) 0) 1) 13) * ((mRaise (mRaise (cl1 ρ) 0) 1) 3)) / 100)) (by omega) (by omega)) cw_X6_61 [] M hK hZ hw hl.1 rfl (by decide) ⟨by decide, by decide⟩ ⟨Nat.zero_le _, Nat.zero_le _⟩ rfl rfl (Nat.le_of_ble_eq_true rfl) dX6_closeOn_109 (fun r sg h_258 H locs hw => ?_)
          obtain ⟨rfl, rfl⟩ := h_258
          have hw : xW G A s.heap [[(a, .inl (Y 0, 140, .inl (rowF (mRaise (mRaise (cl1 ρ) 0) 1))))]] H locs := hw
          refine x_iast M hK hw 0 0 rfl rfl (by decide) (by decide) dX6_closeOn_112 (fun H locs hw => ?_)
          rw [upd_row] at hw
          have hw : xW G A s.heap [[(a, .inl (Y 0, 140, .inl (rowF (setN (mRaise (mRaise (cl1 ρ) 0) 1) 13 (min 99999 ((mRaise (mRaise (cl1 ρ) 0) 1) 13 + ((((mRaise (mRaise (cl1 ρ) 0) 1) 13) * ((mRaise (mRaise (cl1 ρ) 0) 1) 3)) / 100)))))))]] H locs := hw
          have hw := row_fold (i := 0) (f' := rowF (mRaise (mRaise (mRaise (cl1 ρ) 0) 1) 2)) hw rfl (fun q hq => congrArg nI (raise_row (k := 2) rfl (by omega)))
          have hw : xW G A s.heap [[(a, .inl (Y 0, 140, .inl (rowF (mRaise (mRaise (mRaise (cl1 ρ) 0) 1) 2))))]] H locs := hw
          have hI259 := Inv_raise hI243 (k := 2) (by decide)
          have := hI259.stepp
          have := hI259.n6
          have : (mRaise (mRaise (mRaise (cl1 ρ) 0) 1) 2) 5 = (mRaise (mRaise (cl1 ρ) 0) 1) 5 := raise_o (by decide)
          have : askedOf (mRaise (mRaise (mRaise (cl1 ρ) 0) 1) 2) 0 = askedOf (mRaise (mRaise (cl1 ρ) 0) 1) 0 := asked_raise (by decide)
          have : (mRaise (mRaise (mRaise (cl1 ρ) 0) 1) 2) 6 = (mRaise (mRaise (cl1 ρ) 0) 1) 6 := raise_o (by decide)
          have : askedOf (mRaise (mRaise (mRaise (cl1 ρ) 0) 1) 2) 1 = askedOf (mRaise (mRaise (cl1 ρ) 0) 1) 1 := asked_raise (by decide)
          have : askedOf (mRaise (mRaise (mRaise (cl1 ρ) 0) 1) 2) 2 = askedOf (mRaise (mRaise (cl1 ρ) 0) 1) 2 := asked_raise (by decide)
          have : (mRaise (mRaise (mRaise (cl1 ρ) 0) 1) 2) 0 = (mRaise (mRaise (cl1 ρ) 0) 1) 0 := raise_o (by decide)
          have : (mRaise (mRaise (mRaise (cl1 ρ) 0) 1) 2) 4 = (mRaise (mRaise (cl1 ρ) 0) 1) 4 := raise_o (by decide)
          have : (mRaise (mRaise (mRaise (cl1 ρ) 0) 1) 2) 5 = (mRaise (mRaise (cl1 ρ) 0) 1) 5 := raise_o (by decide)
          refine lv_iinc (v := (nI 3)) (lv' := [(2, .int (nI 3)), (3, .int (nI ((((mRaise (mRaise (cl1 ρ) 0) 1) 13) * ((mRaise (mRaise (cl1 ρ) 0) 1) 3)) / 100))), (1, .int (nI (scarce (cl1 ρ)))), (0, .ref a)]) hx hb dX6_closeOn_113 hl (k := 1) rfl (by decide) (by decide) rfl (fun ls hl => ?_)
          refine lv_goto (tgt := 53) hx hb dX6_closeOn_116 (by decide) ?_
          refine lv_iload_n hx hb dX6_closeOn_53 rfl (lv_at hl 0 rfl) ?_
          refine lv_iconst (v := (nI 3)) hx hb dX6_closeOn_54 (by decide) ?_
          refine x_cge M (tgt := 119) (by decide) (by decide) dX6_closeOn_55 (by decide) (fun c_260 => ?_) (fun c_260 => absurd c_260 (by decide))
          refine lv_aload_n hx hb dX6_closeOn_119 rfl (lv_at hl 3 rfl) ?_
          refine lv_iconst (v := (nI 1)) hx hb dX6_closeOn_120 (by decide) ?_
          refine lv_iload_n hx hb dX6_closeOn_121 rfl (lv_at hl 2 rfl) ?_
          refine x_zne M (tgt := 129) (by omega) dX6_closeOn_122 (by decide) (fun c_261 => ?_) (fun c_261 => ?_)
          · refine lv_iconst (v := (nI 0)) hx hb dX6_closeOn_129 (by decide) ?_
            refine x_iast M hK hw 0 0 rfl rfl (by decide) (by decide) dX6_closeOn_130 (fun H locs hw => ?_)
            rw [upd_row] at hw
            have hw : xW G A s.heap [[(a, .inl (Y 0, 140, .inl (rowF (setN (mRaise (mRaise (mRaise (cl1 ρ) 0) 1) 2) 1 0))))]] H locs := hw
            refine lv_aload_n hx hb dX6_closeOn_131 rfl (lv_at hl 3 rfl) ?_
            refine lv_iconst (v := (nI 0)) hx hb dX6_closeOn_132 (by decide) ?_
            refine lv_dup2_11 hx hb dX6_closeOn_133 rfl rfl ?_
            refine x_iald M hK hw 0 0 rfl rfl (by decide) (by decide) dX6_closeOn_134 ?_
            refine x_topN (n := (mRaise (mRaise (mRaise (cl1 ρ) 0) 1) 2) 0) (congrArg nI ((setN_n (by omega)).trans rfl)) ?_
            refine lv_iconst (v := (nI 1)) hx hb dX6_closeOn_135 (by decide) ?_
            refine x_iadd M (n := 1 + (mRaise (mRaise (mRaise (cl1 ρ) 0) 1) 2) 0) dX6_closeOn_136 (by omega) ?_
            refine x_iast M hK hw 0 0 rfl rfl (by decide) (by decide) dX6_closeOn_137 (fun H locs hw => ?_)
            rw [upd_row] at hw
            have hw : xW G A s.heap [[(a, .inl (Y 0, 140, .inl (rowF (setN (setN (mRaise (mRaise (mRaise (cl1 ρ) 0) 1) 2) 1 0) 0 (1 + (mRaise (mRaise (mRaise (cl1 ρ) 0) 1) 2) 0)))))]] H locs := hw
            refine lv_iload_n hx hb dX6_closeOn_138 rfl (lv_at hl 2 rfl) ?_
            have hQ : clQ (cl1 ρ) = mRaise (mRaise (mRaise (cl1 ρ) 0) 1) 2 := by unfold clQ; rw [show clP (cl1 ρ) 0 = mRaise (cl1 ρ) 0 from if_pos c_9, show clP (mRaise (cl1 ρ) 0) 1 = mRaise (mRaise (cl1 ρ) 0) 1 from if_pos c_189, show clP (mRaise (mRaise (cl1 ρ) 0) 1) 2 = mRaise (mRaise (mRaise (cl1 ρ) 0) 1) 2 from if_pos c_249]
            have hM : mClose ρ = setN (setN (mRaise (mRaise (mRaise (cl1 ρ) 0) 1) 2) 1 0) 0 (ρ 0 + 1) := by unfold mClose; rw [hQ, if_neg (by omega)]
            rw [show 1 + (mRaise (mRaise (mRaise (cl1 ρ) 0) 1) 2) 0 = ρ 0 + 1 by omega, ← hM] at hw
            exact hret _ _ _ (nI (scarce (cl1 ρ))) _ _ dX6_closeOn_139 hw rfl rfl ⟨rfl, rfl⟩
          refine lv_iconst (v := (nI 1)) hx hb dX6_closeOn_125 (by decide) ?_
          refine lv_goto (tgt := 130) hx hb dX6_closeOn_126 (by decide) ?_
          refine x_iast M hK hw 0 0 rfl rfl (by decide) (by decide) dX6_closeOn_130 (fun H locs hw => ?_)
          rw [upd_row] at hw
          have hw : xW G A s.heap [[(a, .inl (Y 0, 140, .inl (rowF (setN (mRaise (mRaise (mRaise (cl1 ρ) 0) 1) 2) 1 1))))]] H locs := hw
          refine lv_aload_n hx hb dX6_closeOn_131 rfl (lv_at hl 3 rfl) ?_
          refine lv_iconst (v := (nI 0)) hx hb dX6_closeOn_132 (by decide) ?_
          refine lv_dup2_11 hx hb dX6_closeOn_133 rfl rfl ?_
          refine x_iald M hK hw 0 0 rfl rfl (by decide) (by decide) dX6_closeOn_134 ?_
          refine x_topN (n := (mRaise (mRaise (mRaise (cl1 ρ) 0) 1) 2) 0) (congrArg nI ((setN_n (by omega)).trans rfl)) ?_
          refine lv_iconst (v := (nI 1)) hx hb dX6_closeOn_135 (by decide) ?_
          refine x_iadd M (n := 1 + (mRaise (mRaise (mRaise (cl1 ρ) 0) 1) 2) 0) dX6_closeOn_136 (by omega) ?_
          refine x_iast M hK hw 0 0 rfl rfl (by decide) (by decide) dX6_closeOn_137 (fun H locs hw => ?_)
          rw [upd_row] at hw
          have hw : xW G A s.heap [[(a, .inl (Y 0, 140, .inl (rowF (setN (setN (mRaise (mRaise (mRaise (cl1 ρ) 0) 1) 2) 1 1) 0 (1 + (mRaise (mRaise (mRaise (cl1 ρ) 0) 1) 2) 0)))))]] H locs := hw
          refine lv_iload_n hx hb dX6_closeOn_138 rfl (lv_at hl 2 rfl) ?_
          have hQ : clQ (cl1 ρ) = mRaise (mRaise (mRaise (cl1 ρ) 0) 1) 2 := by unfold clQ; rw [show clP (cl1 ρ) 0 = mRaise (cl1 ρ) 0 from if_pos c_9, show clP (mRaise (cl1 ρ) 0) 1 = mRaise (mRaise (cl1 ρ) 0) 1 from if_pos c_189, show clP (mRaise (mRaise (cl1 ρ) 0) 1) 2 = mRaise (mRaise (mRaise (cl1 ρ) 0) 1) 2 from if_pos c_249]
          have hM : mClose ρ = setN (setN (mRaise (mRaise (mRaise (cl1 ρ) 0) 1) 2) 1 1) 0 (ρ 0 + 1) := by unfold mClose; rw [hQ, if_pos (by omega)]
          rw [show 1 + (mRaise (mRaise (mRaise (cl1 ρ) 0) 1) 2) 0 = ρ 0 + 1 by omega, ← hM] at hw
          exact hret _ _ _ (nI (scarce (cl1 ρ))) _ _ dX6_closeOn_139 hw rfl rfl ⟨rfl, rfl⟩
        refine lv_iconst (v := (nI 1)) hx hb dX6_closeOn_103 (by decide) ?_
        refine lv_goto (tgt := 108) hx hb dX6_closeOn_104 (by decide) ?_
        refine x_iadd M (n := 1 + (mRaise (mRaise (cl1 ρ) 0) 1) 13) dX6_closeOn_108 (by omega) ?_
        refine x_cSI (As := [.int (nI 99999), .int (nI (1 + (mRaise (mRaise (cl1 ρ) 0) 1) 13))]) (k_X6_less l G Y 99999 (1 + (mRaise (mRaise (cl1 ρ) 0) 1) 13) (by omega) (by omega)) cw_X6_61 [] M hK hZ hw hl.1 rfl (by decide) ⟨by decide, by decide⟩ ⟨Nat.zero_le _, Nat.zero_le _⟩ rfl rfl (Nat.le_of_ble_eq_true rfl) dX6_closeOn_109 (fun r sg h_262 H locs hw => ?_)
        obtain ⟨rfl, rfl⟩ := h_262
        have hw : xW G A s.heap [[(a, .inl (Y 0, 140, .inl (rowF (mRaise (mRaise (cl1 ρ) 0) 1))))]] H locs := hw
        refine x_iast M hK hw 0 0 rfl rfl (by decide) (by decide) dX6_closeOn_112 (fun H locs hw => ?_)
        rw [upd_row] at hw
        have hw : xW G A s.heap [[(a, .inl (Y 0, 140, .inl (rowF (setN (mRaise (mRaise (cl1 ρ) 0) 1) 13 (min 99999 (1 + (mRaise (mRaise (cl1 ρ) 0) 1) 13))))))]] H locs := hw
        have hw := row_fold (i := 0) (f' := rowF (mRaise (mRaise (mRaise (cl1 ρ) 0) 1) 2)) hw rfl (fun q hq => congrArg nI (raise_row (k := 2) rfl (by omega)))
        have hw : xW G A s.heap [[(a, .inl (Y 0, 140, .inl (rowF (mRaise (mRaise (mRaise (cl1 ρ) 0) 1) 2))))]] H locs := hw
        have hI263 := Inv_raise hI243 (k := 2) (by decide)
        have := hI263.stepp
        have := hI263.n6
        have : (mRaise (mRaise (mRaise (cl1 ρ) 0) 1) 2) 5 = (mRaise (mRaise (cl1 ρ) 0) 1) 5 := raise_o (by decide)
        have : askedOf (mRaise (mRaise (mRaise (cl1 ρ) 0) 1) 2) 0 = askedOf (mRaise (mRaise (cl1 ρ) 0) 1) 0 := asked_raise (by decide)
        have : (mRaise (mRaise (mRaise (cl1 ρ) 0) 1) 2) 6 = (mRaise (mRaise (cl1 ρ) 0) 1) 6 := raise_o (by decide)
        have : askedOf (mRaise (mRaise (mRaise (cl1 ρ) 0) 1) 2) 1 = askedOf (mRaise (mRaise (cl1 ρ) 0) 1) 1 := asked_raise (by decide)
        have : askedOf (mRaise (mRaise (mRaise (cl1 ρ) 0) 1) 2) 2 = askedOf (mRaise (mRaise (cl1 ρ) 0) 1) 2 := asked_raise (by decide)
        have : (mRaise (mRaise (mRaise (cl1 ρ) 0) 1) 2) 0 = (mRaise (mRaise (cl1 ρ) 0) 1) 0 := raise_o (by decide)
        have : (mRaise (mRaise (mRaise (cl1 ρ) 0) 1) 2) 4 = (mRaise (mRaise (cl1 ρ) 0) 1) 4 := raise_o (by decide)
        have : (mRaise (mRaise (mRaise (cl1 ρ) 0) 1) 2) 5 = (mRaise (mRaise (cl1 ρ) 0) 1) 5 := raise_o (by decide)
        refine lv_iinc (v := (nI 3)) (lv' := [(2, .int (nI 3)), (3, .int (nI ((((mRaise (mRaise (cl1 ρ) 0) 1) 13) * ((mRaise (mRaise (cl1 ρ) 0) 1) 3)) / 100))), (1, .int (nI (scarce (cl1 ρ)))), (0, .ref a)]) hx hb dX6_closeOn_113 hl (k := 1) rfl (by decide) (by decide) rfl (fun ls hl => ?_)
        refine lv_goto (tgt := 53) hx hb dX6_closeOn_116 (by decide) ?_
        refine lv_iload_n hx hb dX6_closeOn_53 rfl (lv_at hl 0 rfl) ?_
        refine lv_iconst (v := (nI 3)) hx hb dX6_closeOn_54 (by decide) ?_
        refine x_cge M (tgt := 119) (by decide) (by decide) dX6_closeOn_55 (by decide) (fun c_264 => ?_) (fun c_264 => absurd c_264 (by decide))
        refine lv_aload_n hx hb dX6_closeOn_119 rfl (lv_at hl 3 rfl) ?_
        refine lv_iconst (v := (nI 1)) hx hb dX6_closeOn_120 (by decide) ?_
        refine lv_iload_n hx hb dX6_closeOn_121 rfl (lv_at hl 2 rfl) ?_
        refine x_zne M (tgt := 129) (by omega) dX6_closeOn_122 (by decide) (fun c_265 => ?_) (fun c_265 => ?_)
        · refine lv_iconst (v := (nI 0)) hx hb dX6_closeOn_129 (by decide) ?_
          refine x_iast M hK hw 0 0 rfl rfl (by decide) (by decide) dX6_closeOn_130 (fun H locs hw => ?_)
          rw [upd_row] at hw
          have hw : xW G A s.heap [[(a, .inl (Y 0, 140, .inl (rowF (setN (mRaise (mRaise (mRaise (cl1 ρ) 0) 1) 2) 1 0))))]] H locs := hw
          refine lv_aload_n hx hb dX6_closeOn_131 rfl (lv_at hl 3 rfl) ?_
          refine lv_iconst (v := (nI 0)) hx hb dX6_closeOn_132 (by decide) ?_
          refine lv_dup2_11 hx hb dX6_closeOn_133 rfl rfl ?_
          refine x_iald M hK hw 0 0 rfl rfl (by decide) (by decide) dX6_closeOn_134 ?_
          refine x_topN (n := (mRaise (mRaise (mRaise (cl1 ρ) 0) 1) 2) 0) (congrArg nI ((setN_n (by omega)).trans rfl)) ?_
          refine lv_iconst (v := (nI 1)) hx hb dX6_closeOn_135 (by decide) ?_
          refine x_iadd M (n := 1 + (mRaise (mRaise (mRaise (cl1 ρ) 0) 1) 2) 0) dX6_closeOn_136 (by omega) ?_
          refine x_iast M hK hw 0 0 rfl rfl (by decide) (by decide) dX6_closeOn_137 (fun H locs hw => ?_)
          rw [upd_row] at hw
          have hw : xW G A s.heap [[(a, .inl (Y 0, 140, .inl (rowF (setN (setN (mRaise (mRaise (mRaise (cl1 ρ) 0) 1) 2) 1 0) 0 (1 + (mRaise (mRaise (mRaise (cl1 ρ) 0) 1) 2) 0)))))]] H locs := hw
          refine lv_iload_n hx hb dX6_closeOn_138 rfl (lv_at hl 2 rfl) ?_
          have hQ : clQ (cl1 ρ) = mRaise (mRaise (mRaise (cl1 ρ) 0) 1) 2 := by unfold clQ; rw [show clP (cl1 ρ) 0 = mRaise (cl1 ρ) 0 from if_pos c_9, show clP (mRaise (cl1 ρ) 0) 1 = mRaise (mRaise (cl1 ρ) 0) 1 from if_pos c_189, show clP (mRaise (mRaise (cl1 ρ) 0) 1) 2 = mRaise (mRaise (mRaise (cl1 ρ) 0) 1) 2 from if_pos c_249]
          have hM : mClose ρ = setN (setN (mRaise (mRaise (mRaise (cl1 ρ) 0) 1) 2) 1 0) 0 (ρ 0 + 1) := by unfold mClose; rw [hQ, if_neg (by omega)]
          rw [show 1 + (mRaise (mRaise (mRaise (cl1 ρ) 0) 1) 2) 0 = ρ 0 + 1 by omega, ← hM] at hw
          exact hret _ _ _ (nI (scarce (cl1 ρ))) _ _ dX6_closeOn_139 hw rfl rfl ⟨rfl, rfl⟩
        refine lv_iconst (v := (nI 1)) hx hb dX6_closeOn_125 (by decide) ?_
        refine lv_goto (tgt := 130) hx hb dX6_closeOn_126 (by decide) ?_
        refine x_iast M hK hw 0 0 rfl rfl (by decide) (by decide) dX6_closeOn_130 (fun H locs hw => ?_)
        rw [upd_row] at hw
        have hw : xW G A s.heap [[(a, .inl (Y 0, 140, .inl (rowF (setN (mRaise (mRaise (mRaise (cl1 ρ) 0) 1) 2) 1 1))))]] H locs := hw
        refine lv_aload_n hx hb dX6_closeOn_131 rfl (lv_at hl 3 rfl) ?_
        refine lv_iconst (v := (nI 0)) hx hb dX6_closeOn_132 (by decide) ?_
        refine lv_dup2_11 hx hb dX6_closeOn_133 rfl rfl ?_
        refine x_iald M hK hw 0 0 rfl rfl (by decide) (by decide) dX6_closeOn_134 ?_
        refine x_topN (n := (mRaise (mRaise (mRaise (cl1 ρ) 0) 1) 2) 0) (congrArg nI ((setN_n (by omega)).trans rfl)) ?_
        refine lv_iconst (v := (nI 1)) hx hb dX6_closeOn_135 (by decide) ?_
        refine x_iadd M (n := 1 + (mRaise (mRaise (mRaise (cl1 ρ) 0) 1) 2) 0) dX6_closeOn_136 (by omega) ?_
        refine x_iast M hK hw 0 0 rfl rfl (by decide) (by decide) dX6_closeOn_137 (fun H locs hw => ?_)
        rw [upd_row] at hw
        have hw : xW G A s.heap [[(a, .inl (Y 0, 140, .inl (rowF (setN (setN (mRaise (mRaise (mRaise (cl1 ρ) 0) 1) 2) 1 1) 0 (1 + (mRaise (mRaise (mRaise (cl1 ρ) 0) 1) 2) 0)))))]] H locs := hw
        refine lv_iload_n hx hb dX6_closeOn_138 rfl (lv_at hl 2 rfl) ?_
        have hQ : clQ (cl1 ρ) = mRaise (mRaise (mRaise (cl1 ρ) 0) 1) 2 := by unfold clQ; rw [show clP (cl1 ρ) 0 = mRaise (cl1 ρ) 0 from if_pos c_9, show clP (mRaise (cl1 ρ) 0) 1 = mRaise (mRaise (cl1 ρ) 0) 1 from if_pos c_189, show clP (mRaise (mRaise (cl1 ρ) 0) 1) 2 = mRaise (mRaise (mRaise (cl1 ρ) 0) 1) 2 from if_pos c_249]
        have hM : mClose ρ = setN (setN (mRaise (mRaise (mRaise (cl1 ρ) 0) 1) 2) 1 1) 0 (ρ 0 + 1) := by unfold mClose; rw [hQ, if_pos (by omega)]
        rw [show 1 + (mRaise (mRaise (mRaise (cl1 ρ) 0) 1) 2) 0 = ρ 0 + 1 by omega, ← hM] at hw
        exact hret _ _ _ (nI (scarce (cl1 ρ))) _ _ dX6_closeOn_139 hw rfl rfl ⟨rfl, rfl⟩
      refine lv_aload_n hx hb dX6_closeOn_9 rfl (lv_at hl 0 rfl) ?_
      refine lv_iload_n hx hb dX6_closeOn_10 rfl (lv_at hl 1 rfl) ?_
      refine x_cSI (As := [.int (nI i)]) (k_X6_at l G Y i) cw_X6_49 [] M hK hZ hw hl.1 rfl (by decide) ⟨by decide, by decide⟩ ⟨Nat.zero_le _, Nat.zero_le _⟩ rfl rfl (Nat.le_of_ble_eq_true rfl) dX6_closeOn_11 (fun r sg h_266 H locs hw => ?_)
      obtain ⟨rfl, rfl⟩ := h_266
      have hw : xW G A s.heap [[(a, .inl (Y 0, 140, .inl (rowF (clR ρ i))))]] H locs := hw
      refine lv_iconst (v := (nI 0)) hx hb dX6_closeOn_14 (by decide) ?_
      refine x_iadd M (n := 14 + 21 * i) dX6_closeOn_15 (by omega) ?_
      refine lv_aload_n hx hb dX6_closeOn_16 rfl (lv_at hl 0 rfl) ?_
      refine lv_iload_n hx hb dX6_closeOn_17 rfl (lv_at hl 1 rfl) ?_
      refine x_cSI (As := [.int (nI i)]) (k_X6_at l G Y i) cw_X6_49 [] M hK hZ hw hl.1 rfl (by decide) ⟨by decide, by decide⟩ ⟨Nat.zero_le _, Nat.zero_le _⟩ rfl rfl (Nat.le_of_ble_eq_true rfl) dX6_closeOn_18 (fun r sg h_267 H locs hw => ?_)
      obtain ⟨rfl, rfl⟩ := h_267
      have hw : xW G A s.heap [[(a, .inl (Y 0, 140, .inl (rowF (clR ρ i))))]] H locs := hw
      refine lv_iconst (v := (nI 0)) hx hb dX6_closeOn_21 (by decide) ?_
      refine x_iadd M (n := 14 + 21 * i) dX6_closeOn_22 (by omega) ?_
      refine x_iald M hK hw 0 0 rfl rfl (by omega) (by decide) dX6_closeOn_23 ?_
      refine x_topN (n := (clR ρ i) (14 + 21 * i)) rfl ?_
      have q_268 : (clR ρ i) (14 + 21 * i) ≤ 99 := hIi.rgt (j := i) (by omega) (by omega)
      refine lv_aload_n hx hb dX6_closeOn_24 rfl (lv_at hl 0 rfl) ?_
      refine lv_iload_n hx hb dX6_closeOn_25 rfl (lv_at hl 1 rfl) ?_
      refine x_cSI (As := [.ref a, .int (nI i)]) (k_X6_activity l G Y a i (clR ρ i) (hIi) (by omega)) cw_X6_67 [0] M hK hZ hw hl.1 rfl (by decide) ⟨by decide, by decide⟩ ⟨Nat.zero_le _, Nat.zero_le _⟩ rfl rfl (Nat.le_of_ble_eq_true rfl) dX6_closeOn_26 (fun r sg h_269 H locs hw => ?_)
      obtain ⟨rfl, rfl⟩ := h_269
      have hw : xW G A s.heap [[(a, .inl (Y 0, 140, .inl (rowF (clR ρ i))))]] H locs := hw
      have q_270 : act (clR ρ i) i ≤ 243 := act_le hIi (by omega)
      refine lv_bipush (v := (nI 100)) hx hb dX6_closeOn_29 (by decide) ?_
      refine x_imul M (n := 100 * (act (clR ρ i) i)) dX6_closeOn_31 (by omega) ?_
      refine lv_aload_n hx hb dX6_closeOn_32 rfl (lv_at hl 0 rfl) ?_
      refine lv_iconst (v := (nI 2)) hx hb dX6_closeOn_33 (by decide) ?_
      refine x_iald M hK hw 0 0 rfl rfl (by decide) (by decide) dX6_closeOn_34 ?_
      refine x_topN (n := (clR ρ i) 2) rfl ?_
      have q_271 : 50 ≤ (clR ρ i) 2 := hIi.keep.1
      have q_272 : (clR ρ i) 2 ≤ 100 := hIi.keep.2
      refine x_idiv M (n := (100 * (act (clR ρ i) i)) / ((clR ρ i) 2)) dX6_closeOn_35 (by omega) (by omega) (by omega) rfl ?_
      have q_273 : (100 * (act (clR ρ i) i)) / ((clR ρ i) 2) ≤ 100 * (act (clR ρ i) i) := Nat.div_le_self _ _
      refine x_cSI (As := [.int (nI ((clR ρ i) (14 + 21 * i))), .int (nI ((100 * (act (clR ρ i) i)) / ((clR ρ i) 2)))]) (k_X6_less l G Y ((clR ρ i) (14 + 21 * i)) ((100 * (act (clR ρ i) i)) / ((clR ρ i) 2)) (by omega) (by omega)) cw_X6_61 [] M hK hZ hw hl.1 rfl (by decide) ⟨by decide, by decide⟩ ⟨Nat.zero_le _, Nat.zero_le _⟩ rfl rfl (Nat.le_of_ble_eq_true rfl) dX6_closeOn_36 (fun r sg h_274 H locs hw => ?_)
      obtain ⟨rfl, rfl⟩ := h_274
      have hw : xW G A s.heap [[(a, .inl (Y 0, 140, .inl (rowF (clR ρ i))))]] H locs := hw
      refine x_iast M hK hw 0 0 rfl rfl (by omega) (by decide) dX6_closeOn_39 (fun H locs hw => ?_)
      rw [upd_row] at hw
      have hw : xW G A s.heap [[(a, .inl (Y 0, 140, .inl (rowF (setN (clR ρ i) (14 + 21 * i) (min ((clR ρ i) (14 + 21 * i)) ((100 * (act (clR ρ i) i)) / ((clR ρ i) 2)))))))]] H locs := hw
      have hw : xW G A s.heap [[(a, .inl (Y 0, 140, .inl (rowF (clR ρ (1 + i)))))]] H locs := by rw [clR_1]; exact hw
      refine lv_iinc (v := (nI (1 + i))) (lv' := [(1, .int (nI (1 + i))), (0, .ref a)]) hx hb dX6_closeOn_40 hl (k := 1) rfl (by rw [show (1 : Int) = ((1 : Nat) : Int) from rfl, nI_inc]; exact congrArg nI (by omega)) (by decide) rfl (fun ls hl => ?_)
      refine lv_goto (tgt := 2) hx hb dX6_closeOn_43 (by decide) ?_
      exact ih2 (1 + i) (by omega) (by omega) _ _ hw _ (lv_sub hl [1, 0] rfl)
  exact L2 (ρ 4 - 0 + 1) 0 (Nat.lt_succ_self _) (by omega) _ _ hw _ (lv_sub hl [1, 0] rfl)
