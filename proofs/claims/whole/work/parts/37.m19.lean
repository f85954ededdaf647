theorem okq_115_0 {lt : Nat → Nat} {n i : Nat} (e : lt i = 115) : okD lt n i 0 (lt i) ↔ (i + 1 + 0 < n ∧ 48 ≤ lt (i + 1 + 0) ∧ lt (i + 1 + 0) ≤ 50) := by unfold okD; rw [e, show chS (lsI 115) 0 = 48 by decide +kernel, show chS (gsI 115) 0 = 50 by decide +kernel]
theorem okq_115_1 {lt : Nat → Nat} {n i : Nat} (e : lt i = 115) : okD lt n i 1 (lt i) ↔ (i + 1 + 1 < n ∧ 49 ≤ lt (i + 1 + 1) ∧ lt (i + 1 + 1) ≤ 57) := by unfold okD; rw [e, show chS (lsI 115) 1 = 49 by decide +kernel, show chS (gsI 115) 1 = 57 by decide +kernel]
theorem okq_115_2 {lt : Nat → Nat} {n i : Nat} (e : lt i = 115) : okD lt n i 2 (lt i) ↔ (i + 1 + 2 < n ∧ 49 ≤ lt (i + 1 + 2) ∧ lt (i + 1 + 2) ≤ 57) := by unfold okD; rw [e, show chS (lsI 115) 2 = 49 by decide +kernel, show chS (gsI 115) 2 = 57 by decide +kernel]
theorem okq_98_0 {lt : Nat → Nat} {n i : Nat} (e : lt i = 98) : okD lt n i 0 (lt i) ↔ (i + 1 + 0 < n ∧ 48 ≤ lt (i + 1 + 0) ∧ lt (i + 1 + 0) ≤ 57) := by unfold okD; rw [e, show chS (lsI 98) 0 = 48 by decide +kernel, show chS (gsI 98) 0 = 57 by decide +kernel]
theorem okq_98_1 {lt : Nat → Nat} {n i : Nat} (e : lt i = 98) : okD lt n i 1 (lt i) ↔ (i + 1 + 1 < n ∧ 48 ≤ lt (i + 1 + 1) ∧ lt (i + 1 + 1) ≤ 57) := by unfold okD; rw [e, show chS (lsI 98) 1 = 48 by decide +kernel, show chS (gsI 98) 1 = 57 by decide +kernel]
theorem okq_98_2 {lt : Nat → Nat} {n i : Nat} (e : lt i = 98) : okD lt n i 2 (lt i) ↔ (i + 1 + 2 < n ∧ 49 ≤ lt (i + 1 + 2) ∧ lt (i + 1 + 2) ≤ 57) := by unfold okD; rw [e, show chS (lsI 98) 2 = 49 by decide +kernel, show chS (gsI 98) 2 = 57 by decide +kernel]
theorem okq_118_0 {lt : Nat → Nat} {n i : Nat} (e : lt i = 118) : okD lt n i 0 (lt i) ↔ (i + 1 + 0 < n ∧ 48 ≤ lt (i + 1 + 0) ∧ lt (i + 1 + 0) ≤ 53) := by unfold okD; rw [e, show chS (lsI 118) 0 = 48 by decide +kernel, show chS (gsI 118) 0 = 53 by decide +kernel]
theorem okq_118_1 {lt : Nat → Nat} {n i : Nat} (e : lt i = 118) : okD lt n i 1 (lt i) ↔ (i + 1 + 1 < n ∧ 48 ≤ lt (i + 1 + 1) ∧ lt (i + 1 + 1) ≤ 50) := by unfold okD; rw [e, show chS (lsI 118) 1 = 48 by decide +kernel, show chS (gsI 118) 1 = 50 by decide +kernel]
theorem okq_118_2 {lt : Nat → Nat} {n i : Nat} (e : lt i = 118) : okD lt n i 2 (lt i) ↔ (i + 1 + 2 < n ∧ 48 ≤ lt (i + 1 + 2) ∧ lt (i + 1 + 2) ≤ 57) := by unfold okD; rw [e, show chS (lsI 118) 2 = 48 by decide +kernel, show chS (gsI 118) 2 = 57 by decide +kernel]
theorem okq_118_3 {lt : Nat → Nat} {n i : Nat} (e : lt i = 118) : okD lt n i 3 (lt i) ↔ (i + 1 + 3 < n ∧ 48 ≤ lt (i + 1 + 3) ∧ lt (i + 1 + 3) ≤ 57) := by unfold okD; rw [e, show chS (lsI 118) 3 = 48 by decide +kernel, show chS (gsI 118) 3 = 57 by decide +kernel]
theorem okq_118_4 {lt : Nat → Nat} {n i : Nat} (e : lt i = 118) : okD lt n i 4 (lt i) ↔ (i + 1 + 4 < n ∧ 48 ≤ lt (i + 1 + 4) ∧ lt (i + 1 + 4) ≤ 57) := by unfold okD; rw [e, show chS (lsI 118) 4 = 48 by decide +kernel, show chS (gsI 118) 4 = 57 by decide +kernel]
theorem okq_113_0 {lt : Nat → Nat} {n i : Nat} (e : lt i = 113) : okD lt n i 0 (lt i) ↔ (i + 1 + 0 < n ∧ 48 ≤ lt (i + 1 + 0) ∧ lt (i + 1 + 0) ≤ 53) := by unfold okD; rw [e, show chS (lsI 113) 0 = 48 by decide +kernel, show chS (gsI 113) 0 = 53 by decide +kernel]
theorem okq_113_1 {lt : Nat → Nat} {n i : Nat} (e : lt i = 113) : okD lt n i 1 (lt i) ↔ (i + 1 + 1 < n ∧ 48 ≤ lt (i + 1 + 1) ∧ lt (i + 1 + 1) ≤ 50) := by unfold okD; rw [e, show chS (lsI 113) 1 = 48 by decide +kernel, show chS (gsI 113) 1 = 50 by decide +kernel]
theorem okq_113_2 {lt : Nat → Nat} {n i : Nat} (e : lt i = 113) : okD lt n i 2 (lt i) ↔ (i + 1 + 2 < n ∧ 48 ≤ lt (i + 1 + 2) ∧ lt (i + 1 + 2) ≤ 57) := by unfold okD; rw [e, show chS (lsI 113) 2 = 48 by decide +kernel, show chS (gsI 113) 2 = 57 by decide +kernel]
theorem okq_119_0 {lt : Nat → Nat} {n i : Nat} (e : lt i = 119) : okD lt n i 0 (lt i) ↔ (i + 1 + 0 < n ∧ 48 ≤ lt (i + 1 + 0) ∧ lt (i + 1 + 0) ≤ 53) := by unfold okD; rw [e, show chS (lsI 119) 0 = 48 by decide +kernel, show chS (gsI 119) 0 = 53 by decide +kernel]
set_option maxHeartbeats 4000000 in
set_option maxRecDepth 20000 in
theorem k_X6_readCommand (l : Launch) (G : va_G) (Y : Nat → Nat) (mo rf tx sz nw tr dy ac kp ik td ch sp ou : Nat) (lt : Nat → Nat) (a : Nat) (ρ : Nat → Nat) (hn : sz ≤ 120) (hlt : ∀ i, i < 120 → lt i < 256) (hI : Inv ρ) (hsp : sp < sz) : CtI l yX6_readCommand cX6_readCommand 6 .boolean 5 112 [.ref mo, .ref a] [[(mo, .inr (5, [.int (nI rf), .ref tx, .int (nI sz), .ref nw, .ref tr, .ref dy, .int (nI ac), .ref kp, .ref ik, .ref td, .ref ch, .int (nI sp), .int (nI ou)]))], [(tx, .inl (Y 0, 120, .inl (rowF lt)))], [(a, .inl (Y 0, 140, .inl (rowF ρ)))]] (fun r sg => (idxC (lt sp) = 0 ∧ r = nI 0 ∧ sg = [[(mo, .inr (5, [.int (nI rf), .ref tx, .int (nI sz), .ref nw, .ref tr, .ref dy, .int (nI ac), .ref kp, .ref ik, .ref td, .ref ch, .int (nI sp), .int (nI ou)]))], [(tx, .inl (Y 0, 120, .inl (rowF lt)))], [(a, .inl (Y 0, 140, .inl (rowF ρ)))]]) ∨ (idxC (lt sp) ≠ 0 ∧ ∃ pb, pb < dgN (lt sp) ∧ (∀ q, q < pb → okD lt sz sp q (lt sp)) ∧ ¬ okD lt sz sp pb (lt sp) ∧ r = nI 0 ∧ sg = [[(mo, .inr (5, [.int (nI rf), .ref tx, .int (nI sz), .ref nw, .ref tr, .ref dy, .int (nI ac), .ref kp, .ref ik, .ref td, .ref ch, .int (nI (sp + 1 + pb)), .int (nI ou)]))], [(tx, .inl (Y 0, 120, .inl (rowF lt)))], [(a, .inl (Y 0, 140, .inl (rowF ρ)))]]) ∨ (idxC (lt sp) ≠ 0 ∧ (∀ q, q < dgN (lt sp) → okD lt sz sp q (lt sp)) ∧ r = nI 1 ∧ sg = [[(mo, .inr (5, [.int (nI rf), .ref tx, .int (nI sz), .ref nw, .ref tr, .ref dy, .int (nI ac), .ref kp, .ref ik, .ref td, .ref ch, .int (nI (sp + 1 + dgN (lt sp))), .int (nI (ou + cmO ρ lt sp))]))], [(tx, .inl (Y 0, 120, .inl (rowF lt)))], [(a, .inl (Y 0, 140, .inl (rowF (cmR ρ lt sp))))]])) G Y := by
  refine x_ofI (by decide) (Nat.le_of_ble_eq_true rfl) (fun p e s m args below meth c A ls Q M hK hZ hw hl hret => ?_)
  obtain ⟨hx, hb, -⟩ := id M
  have hl : lv_has ls 6 [(0, .ref mo), (1, .ref a)] := hl
  have := hI.n6
  refine lv_aload_n hx hb dX6_readCommand_0 rfl (lv_at hl 0 rfl) ?_
  refine x_get M hK hw 0 0 rfl rfl ff_X6_7 rfl dX6_readCommand_1 ?_
  refine lv_aload_n hx hb dX6_readCommand_4 rfl (lv_at hl 0 rfl) ?_
  refine x_get M hK hw 0 0 rfl rfl ff_X6_106 rfl dX6_readCommand_5 ?_
  refine x_iald M hK hw 1 0 rfl rfl (by omega) (by decide) dX6_readCommand_8 ?_
  refine x_topN (n := lt sp) rfl ?_
  have q_1 : lt sp < 256 := hlt sp (by omega)
  refine lv_istore_n (lv' := [(2, .int (nI (lt sp))), (0, .ref mo), (1, .ref a)]) hx hb dX6_readCommand_9 rfl hl (by decide) rfl (fun ls hl => ?_)
  refine lv_aload_n hx hb dX6_readCommand_10 rfl (lv_at hl 1 rfl) ?_
  refine lv_dup hx hb dX6_readCommand_11 rfl ?_
  refine x_get M hK hw 0 0 rfl rfl ff_X6_106 rfl dX6_readCommand_12 ?_
  refine lv_iconst (v := (nI 1)) hx hb dX6_readCommand_15 (by decide) ?_
  refine x_iadd M (n := 1 + sp) dX6_readCommand_16 (by omega) ?_
  refine x_put M hK hw 0 0 rfl rfl fp_X6_106 rfl rfl (Nat.le_of_ble_eq_true rfl) dX6_readCommand_17 (fun H locs hw => ?_)
  have hw : xW G A s.heap [[(mo, .inr (5, [.int (nI rf), .ref tx, .int (nI sz), .ref nw, .ref tr, .ref dy, .int (nI ac), .ref kp, .ref ik, .ref td, .ref ch, .int (nI (1 + sp)), .int (nI ou)]))], [(tx, .inl (Y 0, 120, .inl (rowF lt)))], [(a, .inl (Y 0, 140, .inl (rowF ρ)))]] H locs := hw
  refine lv_iconst (v := (nI 0)) hx hb dX6_readCommand_20 (by decide) ?_
  refine lv_istore_n (lv' := [(3, .int (nI 0)), (2, .int (nI (lt sp))), (0, .ref mo), (1, .ref a)]) hx hb dX6_readCommand_21 rfl hl (by decide) rfl (fun ls hl => ?_)
  refine lv_iconst (v := (nI 0)) hx hb dX6_readCommand_22 (by decide) ?_
  refine lv_istore (lv' := [(4, .int (nI 0)), (3, .int (nI 0)), (2, .int (nI (lt sp))), (0, .ref mo), (1, .ref a)]) hx hb dX6_readCommand_23 hl (by decide) rfl (fun ls hl => ?_)
  refine lv_iconst (v := (nI 0)) hx hb dX6_readCommand_25 (by decide) ?_
  refine lv_istore (lv' := [(5, .int (nI 0)), (4, .int (nI 0)), (3, .int (nI 0)), (2, .int (nI (lt sp))), (0, .ref mo), (1, .ref a)]) hx hb dX6_readCommand_26 hl (by decide) rfl (fun ls hl => ?_)
  refine lv_iload_n hx hb dX6_readCommand_28 rfl (lv_at hl 3 rfl) ?_
  rcases (show lt sp = 115 ∨ lt sp = 98 ∨ lt sp = 118 ∨ lt sp = 113 ∨ lt sp = 119 ∨ lt sp = 99 ∨ (lt sp ≠ 115 ∧ lt sp ≠ 98 ∧ lt sp ≠ 118 ∧ lt sp ≠ 113 ∧ lt sp ≠ 119 ∧ lt sp ≠ 99) by omega) with e_2 | e_2 | e_2 | e_2 | e_2 | e_2 | e_2
  · refine x_topN (n := 115) (congrArg nI e_2) ?_
    refine lv_lookup (tgt := 88) hx hb dX6_readCommand_29 (by decide) rfl (by decide) ?_
    rw [e_2] at hl
    have hid : idxC (lt sp) ≠ 0 := by rw [e_2]; decide
    have hg : dgN (lt sp) = 3 := by rw [e_2]; rfl
    refine lv_aload_n hx hb dX6_readCommand_88 rfl (lv_at hl 4 rfl) ?_
    refine lv_iconst (v := (nI 0)) hx hb dX6_readCommand_89 (by decide) ?_
    refine lv_iconst (v := (nI 2)) hx hb dX6_readCommand_90 (by decide) ?_
    refine x_cVI (As := [.int (nI 0), .int (nI 2)]) (k_X6_figure l G Y mo rf tx sz nw tr dy ac kp ik td ch (1 + sp) ou lt 0 2 (by omega) (by omega) (by omega) (by omega) (by omega)) cw_X6_109 [0, 1] 0 0 M hK hZ hw hl.1 rfl (by decide) rfl rfl rfl ⟨by decide, by decide⟩ ⟨Nat.zero_le _, Nat.zero_le _⟩ rfl rfl (Nat.le_of_ble_eq_true rfl) dX6_readCommand_91 (fun r sg h_3 H locs hw => ?_)
    rcases h_3 with ⟨fc4, rfl, rfl⟩ | ⟨fc5, rfl, rfl⟩
    · have hw : xW G A s.heap [[(mo, .inr (5, [.int (nI rf), .ref tx, .int (nI sz), .ref nw, .ref tr, .ref dy, .int (nI ac), .ref kp, .ref ik, .ref td, .ref ch, .int (nI (1 + (1 + sp))), .int (nI ou)]))], [(tx, .inl (Y 0, 120, .inl (rowF lt)))], [(a, .inl (Y 0, 140, .inl (rowF ρ)))]] H locs := hw
      rw [show (1 + (1 + sp)) = 2 + sp by omega] at hw
      obtain ⟨_, _, _⟩ := id fc4
      refine lv_istore_n (lv' := [(3, .int (nI (lt (1 + sp) - 48))), (5, .int (nI 0)), (4, .int (nI 0)), (2, .int (nI 115)), (0, .ref mo), (1, .ref a)]) hx hb dX6_readCommand_94 rfl hl (by decide) rfl (fun ls hl => ?_)
      refine lv_iload_n hx hb dX6_readCommand_95 rfl (lv_at hl 0 rfl) ?_
      refine lv_iconst (v := (mw 0)) hx hb dX6_readCommand_96 (by decide) ?_
      refine lv_icmp_ne (tgt := 104) hx hb dX6_readCommand_97 (by decide) (fun c_6 => ?_) (fun c_6 => absurd c_6 (nI_m1 (by omega)))
      refine lv_aload_n hx hb dX6_readCommand_104 rfl (lv_at hl 4 rfl) ?_
      refine lv_iconst (v := (nI 1)) hx hb dX6_readCommand_105 (by decide) ?_
      refine lv_bipush (v := (nI 9)) hx hb dX6_readCommand_106 (by decide) ?_
      refine x_cVI (As := [.int (nI 1), .int (nI 9)]) (k_X6_figure l G Y mo rf tx sz nw tr dy ac kp ik td ch (2 + sp) ou lt 1 9 (by omega) (by omega) (by omega) (by omega) (by omega)) cw_X6_109 [0, 1] 0 0 M hK hZ hw hl.1 rfl (by decide) rfl rfl rfl ⟨by decide, by decide⟩ ⟨Nat.zero_le _, Nat.zero_le _⟩ rfl rfl (Nat.le_of_ble_eq_true rfl) dX6_readCommand_108 (fun r sg h_7 H locs hw => ?_)
      rcases h_7 with ⟨fc8, rfl, rfl⟩ | ⟨fc9, rfl, rfl⟩
      · have hw : xW G A s.heap [[(mo, .inr (5, [.int (nI rf), .ref tx, .int (nI sz), .ref nw, .ref tr, .ref dy, .int (nI ac), .ref kp, .ref ik, .ref td, .ref ch, .int (nI (1 + (2 + sp))), .int (nI ou)]))], [(tx, .inl (Y 0, 120, .inl (rowF lt)))], [(a, .inl (Y 0, 140, .inl (rowF ρ)))]] H locs := hw
        rw [show (1 + (2 + sp)) = 3 + sp by omega] at hw
        obtain ⟨_, _, _⟩ := id fc8
        refine lv_istore (lv' := [(4, .int (nI (lt (2 + sp) - 48))), (3, .int (nI (lt (1 + sp) - 48))), (5, .int (nI 0)), (2, .int (nI 115)), (0, .ref mo), (1, .ref a)]) hx hb dX6_readCommand_111 hl (by decide) rfl (fun ls hl => ?_)
        refine lv_iload hx hb dX6_readCommand_113 (lv_at hl 0 rfl) ?_
        refine lv_iconst (v := (mw 0)) hx hb dX6_readCommand_115 (by decide) ?_
        refine lv_icmp_ne (tgt := 123) hx hb dX6_readCommand_116 (by decide) (fun c_10 => ?_) (fun c_10 => absurd c_10 (nI_m1 (by omega)))
        refine lv_aload_n hx hb dX6_readCommand_123 rfl (lv_at hl 4 rfl) ?_
        refine lv_iconst (v := (nI 1)) hx hb dX6_readCommand_124 (by decide) ?_
        refine lv_bipush (v := (nI 9)) hx hb dX6_readCommand_125 (by decide) ?_
        refine x_cVI (As := [.int (nI 1), .int (nI 9)]) (k_X6_figure l G Y mo rf tx sz nw tr dy ac kp ik td ch (3 + sp) ou lt 1 9 (by omega) (by omega) (by omega) (by omega) (by omega)) cw_X6_109 [0, 1] 0 0 M hK hZ hw hl.1 rfl (by decide) rfl rfl rfl ⟨by decide, by decide⟩ ⟨Nat.zero_le _, Nat.zero_le _⟩ rfl rfl (Nat.le_of_ble_eq_true rfl) dX6_readCommand_127 (fun r sg h_11 H locs hw => ?_)
        rcases h_11 with ⟨fc12, rfl, rfl⟩ | ⟨fc13, rfl, rfl⟩
        · have hw : xW G A s.heap [[(mo, .inr (5, [.int (nI rf), .ref tx, .int (nI sz), .ref nw, .ref tr, .ref dy, .int (nI ac), .ref kp, .ref ik, .ref td, .ref ch, .int (nI (1 + (3 + sp))), .int (nI ou)]))], [(tx, .inl (Y 0, 120, .inl (rowF lt)))], [(a, .inl (Y 0, 140, .inl (rowF ρ)))]] H locs := hw
          rw [show (1 + (3 + sp)) = 4 + sp by omega] at hw
          obtain ⟨_, _, _⟩ := id fc12
          refine lv_istore (lv' := [(5, .int (nI (lt (3 + sp) - 48))), (4, .int (nI (lt (2 + sp) - 48))), (3, .int (nI (lt (1 + sp) - 48))), (2, .int (nI 115)), (0, .ref mo), (1, .ref a)]) hx hb dX6_readCommand_130 hl (by decide) rfl (fun ls hl => ?_)
          refine lv_goto (tgt := 260) hx hb dX6_readCommand_132 (by decide) ?_
          refine lv_iload_n hx hb dX6_readCommand_260 rfl (lv_at hl 2 rfl) ?_
          refine lv_iconst (v := (mw 0)) hx hb dX6_readCommand_261 (by decide) ?_
          refine lv_icmp_eq (tgt := 277) hx hb dX6_readCommand_262 (by decide) (fun c_14 => absurd c_14 (nI_m1 (by omega))) (fun c_14 => ?_)
          refine lv_iload hx hb dX6_readCommand_265 (lv_at hl 1 rfl) ?_
          refine lv_iconst (v := (mw 0)) hx hb dX6_readCommand_267 (by decide) ?_
          refine lv_icmp_eq (tgt := 277) hx hb dX6_readCommand_268 (by decide) (fun c_15 => absurd c_15 (nI_m1 (by omega))) (fun c_15 => ?_)
          refine lv_iload hx hb dX6_readCommand_271 (lv_at hl 0 rfl) ?_
          refine lv_iconst (v := (mw 0)) hx hb dX6_readCommand_273 (by decide) ?_
          refine lv_icmp_ne (tgt := 279) hx hb dX6_readCommand_274 (by decide) (fun c_16 => ?_) (fun c_16 => absurd c_16 (nI_m1 (by omega)))
          refine lv_aload_n hx hb dX6_readCommand_279 rfl (lv_at hl 4 rfl) ?_
          refine lv_dup hx hb dX6_readCommand_280 rfl ?_
          refine x_get M hK hw 0 0 rfl rfl ff_X6_140 rfl dX6_readCommand_281 ?_
          refine lv_aload_n hx hb dX6_readCommand_284 rfl (lv_at hl 5 rfl) ?_
          refine lv_iload_n hx hb dX6_readCommand_285 rfl (lv_at hl 3 rfl) ?_
          refine lv_iload_n hx hb dX6_readCommand_286 rfl (lv_at hl 2 rfl) ?_
          refine lv_iload hx hb dX6_readCommand_287 (lv_at hl 1 rfl) ?_
          refine lv_iload hx hb dX6_readCommand_289 (lv_at hl 0 rfl) ?_
          refine x_cSI (As := [.ref a, .int (nI 115), .int (nI (lt (1 + sp) - 48)), .int (nI (lt (2 + sp) - 48)), .int (nI (lt (3 + sp) - 48))]) (k_X6_does_s l G Y a (lt (1 + sp) - 48) (lt (2 + sp) - 48) (lt (3 + sp) - 48) ρ (hI) (by omega) (by omega) (by omega)) cw_X6_143 [2] M hK hZ hw hl.1 rfl (by decide) ⟨by decide, by decide⟩ ⟨Nat.zero_le _, Nat.zero_le _⟩ rfl rfl (Nat.le_of_ble_eq_true rfl) dX6_readCommand_291 (fun r sg h_17 H locs hw => ?_)
          obtain ⟨rfl, rfl⟩ := h_17
          have hw : xW G A s.heap [[(mo, .inr (5, [.int (nI rf), .ref tx, .int (nI sz), .ref nw, .ref tr, .ref dy, .int (nI ac), .ref kp, .ref ik, .ref td, .ref ch, .int (nI (4 + sp)), .int (nI ou)]))], [(tx, .inl (Y 0, 120, .inl (rowF lt)))], [(a, .inl (Y 0, 140, .inl (rowF (dOffer ρ (lt (1 + sp) - 48) (lt (2 + sp) - 48) (lt (3 + sp) - 48)))))]] H locs := hw
          refine x_beq M (tgt := 301) dX6_readCommand_294 (by decide) (fun c_18 => ?_) (fun c_18 => ?_)
          · refine lv_iconst (v := (nI 1)) hx hb dX6_readCommand_301 (by decide) ?_
            refine x_iadd M (n := 1 + ou) dX6_readCommand_302 (by omega) ?_
            refine x_put M hK hw 0 0 rfl rfl fp_X6_140 rfl rfl (Nat.le_of_ble_eq_true rfl) dX6_readCommand_303 (fun H locs hw => ?_)
            have hw : xW G A s.heap [[(mo, .inr (5, [.int (nI rf), .ref tx, .int (nI sz), .ref nw, .ref tr, .ref dy, .int (nI ac), .ref kp, .ref ik, .ref td, .ref ch, .int (nI (4 + sp)), .int (nI (1 + ou))]))], [(tx, .inl (Y 0, 120, .inl (rowF lt)))], [(a, .inl (Y 0, 140, .inl (rowF (dOffer ρ (lt (1 + sp) - 48) (lt (2 + sp) - 48) (lt (3 + sp) - 48)))))]] H locs := hw
            refine lv_iconst (v := (nI 1)) hx hb dX6_readCommand_306 (by decide) ?_
            have hR : cmR ρ lt sp = dOffer ρ (lt (1 + sp) - 48) (lt (2 + sp) - 48) (lt (3 + sp) - 48) := by clear hret hw hl M hK hZ hx hb; unfold cmR; rw [if_pos (by omega), show sp + 1 = 1 + sp by omega, show sp + 2 = 2 + sp by omega, show sp + 3 = 3 + sp by omega, numD_1, numD_1, numD_1]
            have hT : cmT ρ lt sp = tOffer ρ (lt (1 + sp) - 48) (lt (2 + sp) - 48) (lt (3 + sp) - 48) := by clear hret hw hl M hK hZ hx hb; unfold cmT; rw [if_pos (by omega), show sp + 1 = 1 + sp by omega, show sp + 2 = 2 + sp by omega, show sp + 3 = 3 + sp by omega, numD_1, numD_1, numD_1]
            have hO : ou + cmO ρ lt sp = 1 + ou := by unfold cmO; rw [hT, if_neg (of_decide_eq_false c_18)]; omega
            have hS : sp + 1 + dgN (lt sp) = 4 + sp := by rw [hg]; omega
            exact hret _ _ _ (nI 1) _ _ dX6_readCommand_307 hw rfl rfl (Or.inr (Or.inr ⟨hid, fun q hq => by rcases (show q = 0 ∨ q = 1 ∨ q = 2 by omega) with rfl | rfl | rfl; exact (okq_115_0 e_2).mpr (by rw [show sp + 1 + 0 = 1 + sp by omega]; exact ⟨by omega, by omega, by omega⟩); exact (okq_115_1 e_2).mpr (by rw [show sp + 1 + 1 = 2 + sp by omega]; exact ⟨by omega, by omega, by omega⟩); exact (okq_115_2 e_2).mpr (by rw [show sp + 1 + 2 = 3 + sp by omega]; exact ⟨by omega, by omega, by omega⟩), rfl, by rw [hR, hO, hS]⟩))
          refine lv_iconst (v := (nI 0)) hx hb dX6_readCommand_297 (by decide) ?_
          refine lv_goto (tgt := 302) hx hb dX6_readCommand_298 (by decide) ?_
          refine x_iadd M (n := ou) dX6_readCommand_302 (by omega) ?_
          refine x_put M hK hw 0 0 rfl rfl fp_X6_140 rfl rfl (Nat.le_of_ble_eq_true rfl) dX6_readCommand_303 (fun H locs hw => ?_)
          have hw : xW G A s.heap [[(mo, .inr (5, [.int (nI rf), .ref tx, .int (nI sz), .ref nw, .ref tr, .ref dy, .int (nI ac), .ref kp, .ref ik, .ref td, .ref ch, .int (nI (4 + sp)), .int (nI ou)]))], [(tx, .inl (Y 0, 120, .inl (rowF lt)))], [(a, .inl (Y 0, 140, .inl (rowF (dOffer ρ (lt (1 + sp) - 48) (lt (2 + sp) - 48) (lt (3 + sp) - 48)))))]] H locs := hw
          refine lv_iconst (v := (nI 1)) hx hb dX6_readCommand_306 (by decide) ?_
          have hR : cmR ρ lt sp = dOffer ρ (lt (1 + sp) - 48) (lt (2 + sp) - 48) (lt (3 + sp) - 48) := by clear hret hw hl M hK hZ hx hb; unfold cmR; rw [if_pos (by omega), show sp + 1 = 1 + sp by omega, show sp + 2 = 2 + sp by omega, show sp + 3 = 3 + sp by omega, numD_1, numD_1, numD_1]
          have hT : cmT ρ lt sp = tOffer ρ (lt (1 + sp) - 48) (lt (2 + sp) - 48) (lt (3 + sp) - 48) := by clear hret hw hl M hK hZ hx hb; unfold cmT; rw [if_pos (by omega), show sp + 1 = 1 + sp by omega, show sp + 2 = 2 + sp by omega, show sp + 3 = 3 + sp by omega, numD_1, numD_1, numD_1]
          have hO : ou + cmO ρ lt sp = ou := by unfold cmO; rw [hT, if_pos (of_decide_eq_true c_18)]; rfl
          have hS : sp + 1 + dgN (lt sp) = 4 + sp := by rw [hg]; omega
          exact hret _ _ _ (nI 1) _ _ dX6_readCommand_307 hw rfl rfl (Or.inr (Or.inr ⟨hid, fun q hq => by rcases (show q = 0 ∨ q = 1 ∨ q = 2 by omega) with rfl | rfl | rfl; exact (okq_115_0 e_2).mpr (by rw [show sp + 1 + 0 = 1 + sp by omega]; exact ⟨by omega, by omega, by omega⟩); exact (okq_115_1 e_2).mpr (by rw [show sp + 1 + 1 = 2 + sp by omega]; exact ⟨by omega, by omega, by omega⟩); exact (okq_115_2 e_2).mpr (by rw [show sp + 1 + 2 = 3 + sp by omega]; exact ⟨by omega, by omega, by omega⟩), rfl, by rw [hR, hO, hS]⟩))
        · have hw : xW G A s.heap [[(mo, .inr (5, [.int (nI rf), .ref tx, .int (nI sz), .ref nw, .ref tr, .ref dy, .int (nI ac), .ref kp, .ref ik, .ref td, .ref ch, .int (nI (3 + sp)), .int (nI ou)]))], [(tx, .inl (Y 0, 120, .inl (rowF lt)))], [(a, .inl (Y 0, 140, .inl (rowF ρ)))]] H locs := hw
          rw [show (3 + sp) = 3 + sp by omega] at hw
          refine lv_istore (lv' := [(5, .int (mw 0)), (4, .int (nI (lt (2 + sp) - 48))), (3, .int (nI (lt (1 + sp) - 48))), (2, .int (nI 115)), (0, .ref mo), (1, .ref a)]) hx hb dX6_readCommand_130 hl (by decide) rfl (fun ls hl => ?_)
          refine lv_goto (tgt := 260) hx hb dX6_readCommand_132 (by decide) ?_
          refine lv_iload_n hx hb dX6_readCommand_260 rfl (lv_at hl 2 rfl) ?_
          refine lv_iconst (v := (mw 0)) hx hb dX6_readCommand_261 (by decide) ?_
          refine lv_icmp_eq (tgt := 277) hx hb dX6_readCommand_262 (by decide) (fun c_19 => absurd c_19 (nI_m1 (by omega))) (fun c_19 => ?_)
          refine lv_iload hx hb dX6_readCommand_265 (lv_at hl 1 rfl) ?_
          refine lv_iconst (v := (mw 0)) hx hb dX6_readCommand_267 (by decide) ?_
          refine lv_icmp_eq (tgt := 277) hx hb dX6_readCommand_268 (by decide) (fun c_20 => absurd c_20 (nI_m1 (by omega))) (fun c_20 => ?_)
          refine lv_iload hx hb dX6_readCommand_271 (lv_at hl 0 rfl) ?_
          refine lv_iconst (v := (mw 0)) hx hb dX6_readCommand_273 (by decide) ?_
          refine lv_icmp_ne (tgt := 279) hx hb dX6_readCommand_274 (by decide) (fun c_21 => absurd c_21 (fun z => z rfl)) (fun c_21 => ?_)
          refine lv_iconst (v := (nI 0)) hx hb dX6_readCommand_277 (by decide) ?_
          rw [show (3 + sp : Nat) = sp + 1 + 2 by omega] at hw
          exact hret _ _ _ (nI 0) _ _ dX6_readCommand_278 hw rfl rfl (Or.inr (Or.inl ⟨hid, 2, by omega, fun q hq => by rcases (show q = 0 ∨ q = 1 by omega) with rfl | rfl; exact (okq_115_0 e_2).mpr (by rw [show sp + 1 + 0 = 1 + sp by omega]; exact ⟨by omega, by omega, by omega⟩); exact (okq_115_1 e_2).mpr (by rw [show sp + 1 + 1 = 2 + sp by omega]; exact ⟨by omega, by omega, by omega⟩), fun z => fc13 (by have h8 := (okq_115_2 e_2).mp z; rw [show sp + 1 + 2 = 3 + sp by omega] at h8; exact ⟨h8.1, by omega, by omega⟩), rfl, rfl⟩))
      · have hw : xW G A s.heap [[(mo, .inr (5, [.int (nI rf), .ref tx, .int (nI sz), .ref nw, .ref tr, .ref dy, .int (nI ac), .ref kp, .ref ik, .ref td, .ref ch, .int (nI (2 + sp)), .int (nI ou)]))], [(tx, .inl (Y 0, 120, .inl (rowF lt)))], [(a, .inl (Y 0, 140, .inl (rowF ρ)))]] H locs := hw
        rw [show (2 + sp) = 2 + sp by omega] at hw
        refine lv_istore (lv' := [(4, .int (mw 0)), (3, .int (nI (lt (1 + sp) - 48))), (5, .int (nI 0)), (2, .int (nI 115)), (0, .ref mo), (1, .ref a)]) hx hb dX6_readCommand_111 hl (by decide) rfl (fun ls hl => ?_)
        refine lv_iload hx hb dX6_readCommand_113 (lv_at hl 0 rfl) ?_
        refine lv_iconst (v := (mw 0)) hx hb dX6_readCommand_115 (by decide) ?_
        refine lv_icmp_ne (tgt := 123) hx hb dX6_readCommand_116 (by decide) (fun c_22 => absurd c_22 (fun z => z rfl)) (fun c_22 => ?_)
        refine lv_iconst (v := (mw 0)) hx hb dX6_readCommand_119 (by decide) ?_
        refine lv_goto (tgt := 130) hx hb dX6_readCommand_120 (by decide) ?_
        refine lv_istore (lv' := [(5, .int (mw 0)), (4, .int (mw 0)), (3, .int (nI (lt (1 + sp) - 48))), (2, .int (nI 115)), (0, .ref mo), (1, .ref a)]) hx hb dX6_readCommand_130 hl (by decide) rfl (fun ls hl => ?_)
        refine lv_goto (tgt := 260) hx hb dX6_readCommand_132 (by decide) ?_
        refine lv_iload_n hx hb dX6_readCommand_260 rfl (lv_at hl 2 rfl) ?_
        refine lv_iconst (v := (mw 0)) hx hb dX6_readCommand_261 (by decide) ?_
        refine lv_icmp_eq (tgt := 277) hx hb dX6_readCommand_262 (by decide) (fun c_23 => absurd c_23 (nI_m1 (by omega))) (fun c_23 => ?_)
        refine lv_iload hx hb dX6_readCommand_265 (lv_at hl 1 rfl) ?_
        refine lv_iconst (v := (mw 0)) hx hb dX6_readCommand_267 (by decide) ?_
        refine lv_icmp_eq (tgt := 277) hx hb dX6_readCommand_268 (by decide) (fun c_24 => ?_) (fun c_24 => absurd c_24 (fun z => z rfl))
        refine lv_iconst (v := (nI 0)) hx hb dX6_readCommand_277 (by decide) ?_
        rw [show (2 + sp : Nat) = sp + 1 + 1 by omega] at hw
        exact hret _ _ _ (nI 0) _ _ dX6_readCommand_278 hw rfl rfl (Or.inr (Or.inl ⟨hid, 1, by omega, fun q hq => by rcases (show q = 0 by omega) with rfl; exact (okq_115_0 e_2).mpr (by rw [show sp + 1 + 0 = 1 + sp by omega]; exact ⟨by omega, by omega, by omega⟩), fun z => fc9 (by have h8 := (okq_115_1 e_2).mp z; rw [show sp + 1 + 1 = 2 + sp by omega] at h8; exact ⟨h8.1, by omega, by omega⟩), rfl, rfl⟩))
    · have hw : xW G A s.heap [[(mo, .inr (5, [.int (nI rf), .ref tx, .int (nI sz), .ref nw, .ref tr, .ref dy, .int (nI ac), .ref kp, .ref ik, .ref td, .ref ch, .int (nI (1 + sp)), .int (nI ou)]))], [(tx, .inl (Y 0, 120, .inl (rowF lt)))], [(a, .inl (Y 0, 140, .inl (rowF ρ)))]] H locs := hw
      rw [show (1 + sp) = 1 + sp by omega] at hw
      refine lv_istore_n (lv' := [(3, .int (mw 0)), (5, .int (nI 0)), (4, .int (nI 0)), (2, .int (nI 115)), (0, .ref mo), (1, .ref a)]) hx hb dX6_readCommand_94 rfl hl (by decide) rfl (fun ls hl => ?_)
      refine lv_iload_n hx hb dX6_readCommand_95 rfl (lv_at hl 0 rfl) ?_
      refine lv_iconst (v := (mw 0)) hx hb dX6_readCommand_96 (by decide) ?_
      refine lv_icmp_ne (tgt := 104) hx hb dX6_readCommand_97 (by decide) (fun c_25 => absurd c_25 (fun z => z rfl)) (fun c_25 => ?_)
      refine lv_iconst (v := (mw 0)) hx hb dX6_readCommand_100 (by decide) ?_
      refine lv_goto (tgt := 111) hx hb dX6_readCommand_101 (by decide) ?_
      refine lv_istore (lv' := [(4, .int (mw 0)), (3, .int (mw 0)), (5, .int (nI 0)), (2, .int (nI 115)), (0, .ref mo), (1, .ref a)]) hx hb dX6_readCommand_111 hl (by decide) rfl (fun ls hl => ?_)
      refine lv_iload hx hb dX6_readCommand_113 (lv_at hl 0 rfl) ?_
      refine lv_iconst (v := (mw 0)) hx hb dX6_readCommand_115 (by decide) ?_
      refine lv_icmp_ne (tgt := 123) hx hb dX6_readCommand_116 (by decide) (fun c_26 => absurd c_26 (fun z => z rfl)) (fun c_26 => ?_)
      refine lv_iconst (v := (mw 0)) hx hb dX6_readCommand_119 (by decide) ?_
      refine lv_goto (tgt := 130) hx hb dX6_readCommand_120 (by decide) ?_
      refine lv_istore (lv' := [(5, .int (mw 0)), (4, .int (mw 0)), (3, .int (mw 0)), (2, .int (nI 115)), (0, .ref mo), (1, .ref a)]) hx hb dX6_readCommand_130 hl (by decide) rfl (fun ls hl => ?_)
      refine lv_goto (tgt := 260) hx hb dX6_readCommand_132 (by decide) ?_
      refine lv_iload_n hx hb dX6_readCommand_260 rfl (lv_at hl 2 rfl) ?_
      refine lv_iconst (v := (mw 0)) hx hb dX6_readCommand_261 (by decide) ?_
      refine lv_icmp_eq (tgt := 277) hx hb dX6_readCommand_262 (by decide) (fun c_27 => ?_) (fun c_27 => absurd c_27 (fun z => z rfl))
      refine lv_iconst (v := (nI 0)) hx hb dX6_readCommand_277 (by decide) ?_
      rw [show (1 + sp : Nat) = sp + 1 + 0 by omega] at hw
      exact hret _ _ _ (nI 0) _ _ dX6_readCommand_278 hw rfl rfl (Or.inr (Or.inl ⟨hid, 0, by omega, fun q hq => absurd hq (Nat.not_lt_zero _), fun z => fc5 (by have h8 := (okq_115_0 e_2).mp z; rw [show sp + 1 + 0 = 1 + sp by omega] at h8; exact ⟨h8.1, by omega, by omega⟩), rfl, rfl⟩))
  · refine x_topN (n := 98) (congrArg nI e_2) ?_
    refine lv_lookup (tgt := 135) hx hb dX6_readCommand_29 (by decide) rfl (by decide) ?_
    rw [e_2] at hl
    have hid : idxC (lt sp) ≠ 0 := by rw [e_2]; decide
    have hg : dgN (lt sp) = 3 := by rw [e_2]; rfl
    refine lv_aload_n hx hb dX6_readCommand_135 rfl (lv_at hl 4 rfl) ?_
    refine lv_iconst (v := (nI 0)) hx hb dX6_readCommand_136 (by decide) ?_
    refine lv_iconst (v := (nI 2)) hx hb dX6_readCommand_137 (by decide) ?_
    refine x_cVI (As := [.int (nI 0), .int (nI 2)]) (k_X6_figures_2 l G Y mo rf tx sz nw tr dy ac kp ik td ch (1 + sp) ou lt 0 (by omega) (by omega) (by omega) (by omega)) cw_X6_137 [0, 1] 0 0 M hK hZ hw hl.1 rfl (by decide) rfl rfl rfl ⟨by decide, by decide⟩ ⟨Nat.zero_le _, Nat.zero_le _⟩ rfl rfl (Nat.le_of_ble_eq_true rfl) dX6_readCommand_138 (fun r sg h_28 H locs hw => ?_)
    rcases h_28 with ⟨fc29, rfl, rfl⟩ | ⟨qb30, fq31, fo32, fc33, rfl, rfl⟩
    · have hw : xW G A s.heap [[(mo, .inr (5, [.int (nI rf), .ref tx, .int (nI sz), .ref nw, .ref tr, .ref dy, .int (nI ac), .ref kp, .ref ik, .ref td, .ref ch, .int (nI (2 + (1 + sp))), .int (nI ou)]))], [(tx, .inl (Y 0, 120, .inl (rowF lt)))], [(a, .inl (Y 0, 140, .inl (rowF ρ)))]] H locs := hw
      rw [show (2 + (1 + sp)) = 3 + sp by omega] at hw
      obtain ⟨_, _, _⟩ := fc29 0 (by decide)
      obtain ⟨_, _, _⟩ := fc29 1 (by decide)
      have hn9 : numD lt (1 + sp) 2 ≤ 999 := numD_le (fun q hq => (fc29 q hq).2.2) (by decide)
      refine lv_istore_n (lv' := [(3, .int (nI (numD lt (1 + sp) 2))), (5, .int (nI 0)), (4, .int (nI 0)), (2, .int (nI 98)), (0, .ref mo), (1, .ref a)]) hx hb dX6_readCommand_141 rfl hl (by decide) rfl (fun ls hl => ?_)
      refine lv_iload_n hx hb dX6_readCommand_142 rfl (lv_at hl 0 rfl) ?_
      refine lv_iconst (v := (mw 0)) hx hb dX6_readCommand_143 (by decide) ?_
      refine lv_icmp_ne (tgt := 151) hx hb dX6_readCommand_144 (by decide) (fun c_34 => ?_) (fun c_34 => absurd c_34 (nI_m1 (by omega)))
      refine lv_aload_n hx hb dX6_readCommand_151 rfl (lv_at hl 4 rfl) ?_
      refine lv_iconst (v := (nI 1)) hx hb dX6_readCommand_152 (by decide) ?_
      refine lv_bipush (v := (nI 9)) hx hb dX6_readCommand_153 (by decide) ?_
      refine x_cVI (As := [.int (nI 1), .int (nI 9)]) (k_X6_figure l G Y mo rf tx sz nw tr dy ac kp ik td ch (3 + sp) ou lt 1 9 (by omega) (by omega) (by omega) (by omega) (by omega)) cw_X6_109 [0, 1] 0 0 M hK hZ hw hl.1 rfl (by decide) rfl rfl rfl ⟨by decide, by decide⟩ ⟨Nat.zero_le _, Nat.zero_le _⟩ rfl rfl (Nat.le_of_ble_eq_true rfl) dX6_readCommand_155 (fun r sg h_35 H locs hw => ?_)
      rcases h_35 with ⟨fc36, rfl, rfl⟩ | ⟨fc37, rfl, rfl⟩
      · have hw : xW G A s.heap [[(mo, .inr (5, [.int (nI rf), .ref tx, .int (nI sz), .ref nw, .ref tr, .ref dy, .int (nI ac), .ref kp, .ref ik, .ref td, .ref ch, .int (nI (1 + (3 + sp))), .int (nI ou)]))], [(tx, .inl (Y 0, 120, .inl (rowF lt)))], [(a, .inl (Y 0, 140, .inl (rowF ρ)))]] H locs := hw
        rw [show (1 + (3 + sp)) = 4 + sp by omega] at hw
        obtain ⟨_, _, _⟩ := id fc36
        refine lv_istore (lv' := [(4, .int (nI (lt (3 + sp) - 48))), (3, .int (nI (numD lt (1 + sp) 2))), (5, .int (nI 0)), (2, .int (nI 98)), (0, .ref mo), (1, .ref a)]) hx hb dX6_readCommand_158 hl (by decide) rfl (fun ls hl => ?_)
        refine lv_goto (tgt := 260) hx hb dX6_readCommand_160 (by decide) ?_
        refine lv_iload_n hx hb dX6_readCommand_260 rfl (lv_at hl 1 rfl) ?_
        refine lv_iconst (v := (mw 0)) hx hb dX6_readCommand_261 (by decide) ?_
        refine lv_icmp_eq (tgt := 277) hx hb dX6_readCommand_262 (by decide) (fun c_38 => absurd c_38 (nI_m1 (by omega))) (fun c_38 => ?_)
        refine lv_iload hx hb dX6_readCommand_265 (lv_at hl 0 rfl) ?_
        refine lv_iconst (v := (mw 0)) hx hb dX6_readCommand_267 (by decide) ?_
        refine lv_icmp_eq (tgt := 277) hx hb dX6_readCommand_268 (by decide) (fun c_39 => absurd c_39 (nI_m1 (by omega))) (fun c_39 => ?_)
        refine lv_iload hx hb dX6_readCommand_271 (lv_at hl 2 rfl) ?_
        refine lv_iconst (v := (mw 0)) hx hb dX6_readCommand_273 (by decide) ?_
        refine lv_icmp_ne (tgt := 279) hx hb dX6_readCommand_274 (by decide) (fun c_40 => ?_) (fun c_40 => absurd c_40 (nI_m1 (by omega)))
        refine lv_aload_n hx hb dX6_readCommand_279 rfl (lv_at hl 4 rfl) ?_
        refine lv_dup hx hb dX6_readCommand_280 rfl ?_
        refine x_get M hK hw 0 0 rfl rfl ff_X6_140 rfl dX6_readCommand_281 ?_
        refine lv_aload_n hx hb dX6_readCommand_284 rfl (lv_at hl 5 rfl) ?_
        refine lv_iload_n hx hb dX6_readCommand_285 rfl (lv_at hl 3 rfl) ?_
        refine lv_iload_n hx hb dX6_readCommand_286 rfl (lv_at hl 1 rfl) ?_
        refine lv_iload hx hb dX6_readCommand_287 (lv_at hl 0 rfl) ?_
        refine lv_iload hx hb dX6_readCommand_289 (lv_at hl 2 rfl) ?_
        refine x_cSI (As := [.ref a, .int (nI 98), .int (nI (numD lt (1 + sp) 2)), .int (nI (lt (3 + sp) - 48)), .int (nI 0)]) (k_X6_does_b l G Y a (numD lt (1 + sp) 2) (lt (3 + sp) - 48) 0 ρ (hI) (by omega) (by omega)) cw_X6_143 [2] M hK hZ hw hl.1 rfl (by decide) ⟨by decide, by decide⟩ ⟨Nat.zero_le _, Nat.zero_le _⟩ rfl rfl (Nat.le_of_ble_eq_true rfl) dX6_readCommand_291 (fun r sg h_41 H locs hw => ?_)
        obtain ⟨rfl, rfl⟩ := h_41
        have hw : xW G A s.heap [[(mo, .inr (5, [.int (nI rf), .ref tx, .int (nI sz), .ref nw, .ref tr, .ref dy, .int (nI ac), .ref kp, .ref ik, .ref td, .ref ch, .int (nI (4 + sp)), .int (nI ou)]))], [(tx, .inl (Y 0, 120, .inl (rowF lt)))], [(a, .inl (Y 0, 140, .inl (rowF (dJoin ρ (numD lt (1 + sp) 2) (lt (3 + sp) - 48)))))]] H locs := hw
        refine x_beq M (tgt := 301) dX6_readCommand_294 (by decide) (fun c_42 => ?_) (fun c_42 => ?_)
        · refine lv_iconst (v := (nI 1)) hx hb dX6_readCommand_301 (by decide) ?_
          refine x_iadd M (n := 1 + ou) dX6_readCommand_302 (by omega) ?_
          refine x_put M hK hw 0 0 rfl rfl fp_X6_140 rfl rfl (Nat.le_of_ble_eq_true rfl) dX6_readCommand_303 (fun H locs hw => ?_)
          have hw : xW G A s.heap [[(mo, .inr (5, [.int (nI rf), .ref tx, .int (nI sz), .ref nw, .ref tr, .ref dy, .int (nI ac), .ref kp, .ref ik, .ref td, .ref ch, .int (nI (4 + sp)), .int (nI (1 + ou))]))], [(tx, .inl (Y 0, 120, .inl (rowF lt)))], [(a, .inl (Y 0, 140, .inl (rowF (dJoin ρ (numD lt (1 + sp) 2) (lt (3 + sp) - 48)))))]] H locs := hw
          refine lv_iconst (v := (nI 1)) hx hb dX6_readCommand_306 (by decide) ?_
          have hR : cmR ρ lt sp = dJoin ρ (numD lt (1 + sp) 2) (lt (3 + sp) - 48) := by clear hret hw hl M hK hZ hx hb; unfold cmR; rw [if_neg (by omega), if_pos (by omega), show sp + 1 = 1 + sp by omega, show sp + 3 = 3 + sp by omega, numD_1]
          have hT : cmT ρ lt sp = tJoin ρ (numD lt (1 + sp) 2) (lt (3 + sp) - 48) := by clear hret hw hl M hK hZ hx hb; unfold cmT; rw [if_neg (by omega), if_pos (by omega), show sp + 1 = 1 + sp by omega, show sp + 3 = 3 + sp by omega, numD_1]
          have hO : ou + cmO ρ lt sp = 1 + ou := by unfold cmO; rw [hT, if_neg (of_decide_eq_false c_42)]; omega
          have hS : sp + 1 + dgN (lt sp) = 4 + sp := by rw [hg]; omega
          exact hret _ _ _ (nI 1) _ _ dX6_readCommand_307 hw rfl rfl (Or.inr (Or.inr ⟨hid, fun q hq => by rcases (show q = 0 ∨ q = 1 ∨ q = 2 by omega) with rfl | rfl | rfl; exact (okq_98_0 e_2).mpr (by have h9 := fc29 0 (by decide); rw [show 1 + sp + 0 = 1 + sp by omega] at h9; rw [show sp + 1 + 0 = 1 + sp by omega]; exact ⟨h9.1, h9.2.1, h9.2.2⟩); exact (okq_98_1 e_2).mpr (by have h9 := fc29 1 (by decide); rw [show 1 + sp + 1 = 2 + sp by omega] at h9; rw [show sp + 1 + 1 = 2 + sp by omega]; exact ⟨h9.1, h9.2.1, h9.2.2⟩); exact (okq_98_2 e_2).mpr (by rw [show sp + 1 + 2 = 3 + sp by omega]; exact ⟨by omega, by omega, by omega⟩), rfl, by rw [hR, hO, hS]⟩))
        refine lv_iconst (v := (nI 0)) hx hb dX6_readCommand_297 (by decide) ?_
        refine lv_goto (tgt := 302) hx hb dX6_readCommand_298 (by decide) ?_
        refine x_iadd M (n := ou) dX6_readCommand_302 (by omega) ?_
        refine x_put M hK hw 0 0 rfl rfl fp_X6_140 rfl rfl (Nat.le_of_ble_eq_true rfl) dX6_readCommand_303 (fun H locs hw => ?_)
        have hw : xW G A s.heap [[(mo, .inr (5, [.int (nI rf), .ref tx, .int (nI sz), .ref nw, .ref tr, .ref dy, .int (nI ac), .ref kp, .ref ik, .ref td, .ref ch, .int (nI (4 + sp)), .int (nI ou)]))], [(tx, .inl (Y 0, 120, .inl (rowF lt)))], [(a, .inl (Y 0, 140, .inl (rowF (dJoin ρ (numD lt (1 + sp) 2) (lt (3 + sp) - 48)))))]] H locs := hw
        refine lv_iconst (v := (nI 1)) hx hb dX6_readCommand_306 (by decide) ?_
        have hR : cmR ρ lt sp = dJoin ρ (numD lt (1 + sp) 2) (lt (3 + sp) - 48) := by clear hret hw hl M hK hZ hx hb; unfold cmR; rw [if_neg (by omega), if_pos (by omega), show sp + 1 = 1 + sp by omega, show sp + 3 = 3 + sp by omega, numD_1]
        have hT : cmT ρ lt sp = tJoin ρ (numD lt (1 + sp) 2) (lt (3 + sp) - 48) := by clear hret hw hl M hK hZ hx hb; unfold cmT; rw [if_neg (by omega), if_pos (by omega), show sp + 1 = 1 + sp by omega, show sp + 3 = 3 + sp by omega, numD_1]
        have hO : ou + cmO ρ lt sp = ou := by unfold cmO; rw [hT, if_pos (of_decide_eq_true c_42)]; rfl
        have hS : sp + 1 + dgN (lt sp) = 4 + sp := by rw [hg]; omega
        exact hret _ _ _ (nI 1) _ _ dX6_readCommand_307 hw rfl rfl (Or.inr (Or.inr ⟨hid, fun q hq => by rcases (show q = 0 ∨ q = 1 ∨ q = 2 by omega) with rfl | rfl | rfl; exact (okq_98_0 e_2).mpr (by have h9 := fc29 0 (by decide); rw [show 1 + sp + 0 = 1 + sp by omega] at h9; rw [show sp + 1 + 0 = 1 + sp by omega]; exact ⟨h9.1, h9.2.1, h9.2.2⟩); exact (okq_98_1 e_2).mpr (by have h9 := fc29 1 (by decide); rw [show 1 + sp + 1 = 2 + sp by omega] at h9; rw [show sp + 1 + 1 = 2 + sp by omega]; exact ⟨h9.1, h9.2.1, h9.2.2⟩); exact (okq_98_2 e_2).mpr (by rw [show sp + 1 + 2 = 3 + sp by omega]; exact ⟨by omega, by omega, by omega⟩), rfl, by rw [hR, hO, hS]⟩))
      · have hw : xW G A s.heap [[(mo, .inr (5, [.int (nI rf), .ref tx, .int (nI sz), .ref nw, .ref tr, .ref dy, .int (nI ac), .ref kp, .ref ik, .ref td, .ref ch, .int (nI (3 + sp)), .int (nI ou)]))], [(tx, .inl (Y 0, 120, .inl (rowF lt)))], [(a, .inl (Y 0, 140, .inl (rowF ρ)))]] H locs := hw
        rw [show (3 + sp) = 3 + sp by omega] at hw
        refine lv_istore (lv' := [(4, .int (mw 0)), (3, .int (nI (numD lt (1 + sp) 2))), (5, .int (nI 0)), (2, .int (nI 98)), (0, .ref mo), (1, .ref a)]) hx hb dX6_readCommand_158 hl (by decide) rfl (fun ls hl => ?_)
        refine lv_goto (tgt := 260) hx hb dX6_readCommand_160 (by decide) ?_
        refine lv_iload_n hx hb dX6_readCommand_260 rfl (lv_at hl 1 rfl) ?_
        refine lv_iconst (v := (mw 0)) hx hb dX6_readCommand_261 (by decide) ?_
        refine lv_icmp_eq (tgt := 277) hx hb dX6_readCommand_262 (by decide) (fun c_43 => absurd c_43 (nI_m1 (by omega))) (fun c_43 => ?_)
        refine lv_iload hx hb dX6_readCommand_265 (lv_at hl 0 rfl) ?_
        refine lv_iconst (v := (mw 0)) hx hb dX6_readCommand_267 (by decide) ?_
        refine lv_icmp_eq (tgt := 277) hx hb dX6_readCommand_268 (by decide) (fun c_44 => ?_) (fun c_44 => absurd c_44 (fun z => z rfl))
        refine lv_iconst (v := (nI 0)) hx hb dX6_readCommand_277 (by decide) ?_
        rw [show (3 + sp : Nat) = sp + 1 + 2 by omega] at hw
        exact hret _ _ _ (nI 0) _ _ dX6_readCommand_278 hw rfl rfl (Or.inr (Or.inl ⟨hid, 2, by omega, fun q hq => by rcases (show q = 0 ∨ q = 1 by omega) with rfl | rfl; exact (okq_98_0 e_2).mpr (by have h9 := fc29 0 (by decide); rw [show 1 + sp + 0 = 1 + sp by omega] at h9; rw [show sp + 1 + 0 = 1 + sp by omega]; exact ⟨h9.1, h9.2.1, h9.2.2⟩); exact (okq_98_1 e_2).mpr (by have h9 := fc29 1 (by decide); rw [show 1 + sp + 1 = 2 + sp by omega] at h9; rw [show sp + 1 + 1 = 2 + sp by omega]; exact ⟨h9.1, h9.2.1, h9.2.2⟩), fun z => fc37 (by have h8 := (okq_98_2 e_2).mp z; rw [show sp + 1 + 2 = 3 + sp by omega] at h8; exact ⟨h8.1, by omega, by omega⟩), rfl, rfl⟩))
    · have hw : xW G A s.heap [[(mo, .inr (5, [.int (nI rf), .ref tx, .int (nI sz), .ref nw, .ref tr, .ref dy, .int (nI ac), .ref kp, .ref ik, .ref td, .ref ch, .int (nI ((1 + sp) + qb30)), .int (nI ou)]))], [(tx, .inl (Y 0, 120, .inl (rowF lt)))], [(a, .inl (Y 0, 140, .inl (rowF ρ)))]] H locs := hw
      rw [show ((1 + sp) + qb30) = 1 + sp + qb30 by omega] at hw
      refine lv_istore_n (lv' := [(3, .int (mw 0)), (5, .int (nI 0)), (4, .int (nI 0)), (2, .int (nI 98)), (0, .ref mo), (1, .ref a)]) hx hb dX6_readCommand_141 rfl hl (by decide) rfl (fun ls hl => ?_)
      refine lv_iload_n hx hb dX6_readCommand_142 rfl (lv_at hl 0 rfl) ?_
      refine lv_iconst (v := (mw 0)) hx hb dX6_readCommand_143 (by decide) ?_
      refine lv_icmp_ne (tgt := 151) hx hb dX6_readCommand_144 (by decide) (fun c_45 => absurd c_45 (fun z => z rfl)) (fun c_45 => ?_)
      refine lv_iconst (v := (mw 0)) hx hb dX6_readCommand_147 (by decide) ?_
      refine lv_goto (tgt := 158) hx hb dX6_readCommand_148 (by decide) ?_
      refine lv_istore (lv' := [(4, .int (mw 0)), (3, .int (mw 0)), (5, .int (nI 0)), (2, .int (nI 98)), (0, .ref mo), (1, .ref a)]) hx hb dX6_readCommand_158 hl (by decide) rfl (fun ls hl => ?_)
      refine lv_goto (tgt := 260) hx hb dX6_readCommand_160 (by decide) ?_
      refine lv_iload_n hx hb dX6_readCommand_260 rfl (lv_at hl 1 rfl) ?_
      refine lv_iconst (v := (mw 0)) hx hb dX6_readCommand_261 (by decide) ?_
      refine lv_icmp_eq (tgt := 277) hx hb dX6_readCommand_262 (by decide) (fun c_46 => ?_) (fun c_46 => absurd c_46 (fun z => z rfl))
      refine lv_iconst (v := (nI 0)) hx hb dX6_readCommand_277 (by decide) ?_
      rw [show (1 + sp + qb30 : Nat) = sp + 1 + (0 + qb30) by omega] at hw
      have hany : ∀ j, j < 2 → (okD lt sz sp (0 + j) (lt sp) ↔ (1 + sp + j < sz ∧ 48 ≤ lt (1 + sp + j) ∧ lt (1 + sp + j) ≤ 57)) := fun j hj => by rcases (show j = 0 ∨ j = 1 by omega) with rfl | rfl; (rw [show 1 + sp + 0 = sp + 1 + 0 by omega]; exact okq_98_0 e_2); (rw [show 1 + sp + 1 = sp + 1 + 1 by omega]; exact okq_98_1 e_2)
      exact hret _ _ _ (nI 0) _ _ dX6_readCommand_278 hw rfl rfl (Or.inr (Or.inl ⟨hid, 0 + qb30, by omega, fun q hq => by rcases Nat.lt_or_ge q 0 with hz | hz; exact (show ∀ q, q < 0 → okD lt sz sp q (lt sp) from fun q hq => absurd hq (Nat.not_lt_zero _)) q hz; (have h9 := (hany (q - 0) (by omega)).mpr (fo32 (q - 0) (by omega)); rw [show 0 + (q - 0) = q by omega] at h9; exact h9), fun z => fc33 ((hany qb30 (by omega)).mp z), rfl, rfl⟩))
  · refine x_topN (n := 118) (congrArg nI e_2) ?_
    refine lv_lookup (tgt := 163) hx hb dX6_readCommand_29 (by decide) rfl (by decide) ?_
    rw [e_2] at hl
    have hid : idxC (lt sp) ≠ 0 := by rw [e_2]; decide
    have hg : dgN (lt sp) = 5 := by rw [e_2]; rfl
    refine lv_aload_n hx hb dX6_readCommand_163 rfl (lv_at hl 4 rfl) ?_
    refine lv_iconst (v := (nI 0)) hx hb dX6_readCommand_164 (by decide) ?_
    refine lv_iconst (v := (nI 5)) hx hb dX6_readCommand_165 (by decide) ?_
    refine x_cVI (As := [.int (nI 0), .int (nI 5)]) (k_X6_figure l G Y mo rf tx sz nw tr dy ac kp ik td ch (1 + sp) ou lt 0 5 (by omega) (by omega) (by omega) (by omega) (by omega)) cw_X6_109 [0, 1] 0 0 M hK hZ hw hl.1 rfl (by decide) rfl rfl rfl ⟨by decide, by decide⟩ ⟨Nat.zero_le _, Nat.zero_le _⟩ rfl rfl (Nat.le_of_ble_eq_true rfl) dX6_readCommand_166 (fun r sg h_47 H locs hw => ?_)
    rcases h_47 with ⟨fc48, rfl, rfl⟩ | ⟨fc49, rfl, rfl⟩
    · have hw : xW G A s.heap [[(mo, .inr (5, [.int (nI rf), .ref tx, .int (nI sz), .ref nw, .ref tr, .ref dy, .int (nI ac), .ref kp, .ref ik, .ref td, .ref ch, .int (nI (1 + (1 + sp))), .int (nI ou)]))], [(tx, .inl (Y 0, 120, .inl (rowF lt)))], [(a, .inl (Y 0, 140, .inl (rowF ρ)))]] H locs := hw
      rw [show (1 + (1 + sp)) = 2 + sp by omega] at hw
      obtain ⟨_, _, _⟩ := id fc48
      refine lv_istore_n (lv' := [(3, .int (nI (lt (1 + sp) - 48))), (5, .int (nI 0)), (4, .int (nI 0)), (2, .int (nI 118)), (0, .ref mo), (1, .ref a)]) hx hb dX6_readCommand_169 rfl hl (by decide) rfl (fun ls hl => ?_)
      refine lv_iload_n hx hb dX6_readCommand_170 rfl (lv_at hl 0 rfl) ?_
      refine lv_iconst (v := (mw 0)) hx hb dX6_readCommand_171 (by decide) ?_
      refine lv_icmp_ne (tgt := 179) hx hb dX6_readCommand_172 (by decide) (fun c_50 => ?_) (fun c_50 => absurd c_50 (nI_m1 (by omega)))
      refine lv_aload_n hx hb dX6_readCommand_179 rfl (lv_at hl 4 rfl) ?_
      refine lv_iconst (v := (nI 0)) hx hb dX6_readCommand_180 (by decide) ?_
      refine lv_iconst (v := (nI 2)) hx hb dX6_readCommand_181 (by decide) ?_
      refine x_cVI (As := [.int (nI 0), .int (nI 2)]) (k_X6_figure l G Y mo rf tx sz nw tr dy ac kp ik td ch (2 + sp) ou lt 0 2 (by omega) (by omega) (by omega) (by omega) (by omega)) cw_X6_109 [0, 1] 0 0 M hK hZ hw hl.1 rfl (by decide) rfl rfl rfl ⟨by decide, by decide⟩ ⟨Nat.zero_le _, Nat.zero_le _⟩ rfl rfl (Nat.le_of_ble_eq_true rfl) dX6_readCommand_182 (fun r sg h_51 H locs hw => ?_)
      rcases h_51 with ⟨fc52, rfl, rfl⟩ | ⟨fc53, rfl, rfl⟩
      · have hw : xW G A s.heap [[(mo, .inr (5, [.int (nI rf), .ref tx, .int (nI sz), .ref nw, .ref tr, .ref dy, .int (nI ac), .ref kp, .ref ik, .ref td, .ref ch, .int (nI (1 + (2 + sp))), .int (nI ou)]))], [(tx, .inl (Y 0, 120, .inl (rowF lt)))], [(a, .inl (Y 0, 140, .inl (rowF ρ)))]] H locs := hw
        rw [show (1 + (2 + sp)) = 3 + sp by omega] at hw
        obtain ⟨_, _, _⟩ := id fc52
        refine lv_istore (lv' := [(4, .int (nI (lt (2 + sp) - 48))), (3, .int (nI (lt (1 + sp) - 48))), (5, .int (nI 0)), (2, .int (nI 118)), (0, .ref mo), (1, .ref a)]) hx hb dX6_readCommand_185 hl (by decide) rfl (fun ls hl => ?_)
        refine lv_aload_n hx hb dX6_readCommand_187 rfl (lv_at hl 4 rfl) ?_
        refine lv_iload hx hb dX6_readCommand_188 (lv_at hl 0 rfl) ?_
        refine lv_iconst (v := (nI 3)) hx hb dX6_readCommand_190 (by decide) ?_
        refine x_cVI (As := [.int (nI (lt (2 + sp) - 48)), .int (nI 3)]) (k_X6_figures_3 l G Y mo rf tx sz nw tr dy ac kp ik td ch (3 + sp) ou lt (lt (2 + sp) - 48) (by omega) (by omega) (by omega) (by omega)) cw_X6_137 [0, 1] 0 0 M hK hZ hw hl.1 rfl (by decide) rfl rfl rfl ⟨by decide, by decide⟩ ⟨Nat.zero_le _, Nat.zero_le _⟩ rfl rfl (Nat.le_of_ble_eq_true rfl) dX6_readCommand_191 (fun r sg h_54 H locs hw => ?_)
        rcases h_54 with ⟨fc55, rfl, rfl⟩ | ⟨qb56, fq57, fo58, fc59, rfl, rfl⟩
        · have hw : xW G A s.heap [[(mo, .inr (5, [.int (nI rf), .ref tx, .int (nI sz), .ref nw, .ref tr, .ref dy, .int (nI ac), .ref kp, .ref ik, .ref td, .ref ch, .int (nI (3 + (3 + sp))), .int (nI ou)]))], [(tx, .inl (Y 0, 120, .inl (rowF lt)))], [(a, .inl (Y 0, 140, .inl (rowF ρ)))]] H locs := hw
          rw [show (3 + (3 + sp)) = 6 + sp by omega] at hw
          obtain ⟨_, _, _⟩ := fc55 0 (by decide)
          obtain ⟨_, _, _⟩ := fc55 1 (by decide)
          obtain ⟨_, _, _⟩ := fc55 2 (by decide)
          have hn9 : numD lt (3 + sp) 3 ≤ 999 := numD_le (fun q hq => (fc55 q hq).2.2) (by decide)
          refine lv_istore (lv' := [(5, .int (nI (numD lt (3 + sp) 3))), (4, .int (nI (lt (2 + sp) - 48))), (3, .int (nI (lt (1 + sp) - 48))), (2, .int (nI 118)), (0, .ref mo), (1, .ref a)]) hx hb dX6_readCommand_194 hl (by decide) rfl (fun ls hl => ?_)
          refine lv_goto (tgt := 260) hx hb dX6_readCommand_196 (by decide) ?_
          refine lv_iload_n hx hb dX6_readCommand_260 rfl (lv_at hl 2 rfl) ?_
          refine lv_iconst (v := (mw 0)) hx hb dX6_readCommand_261 (by decide) ?_
          refine lv_icmp_eq (tgt := 277) hx hb dX6_readCommand_262 (by decide) (fun c_60 => absurd c_60 (nI_m1 (by omega))) (fun c_60 => ?_)
          refine lv_iload hx hb dX6_readCommand_265 (lv_at hl 1 rfl) ?_
          refine lv_iconst (v := (mw 0)) hx hb dX6_readCommand_267 (by decide) ?_
          refine lv_icmp_eq (tgt := 277) hx hb dX6_readCommand_268 (by decide) (fun c_61 => absurd c_61 (nI_m1 (by omega))) (fun c_61 => ?_)
          refine lv_iload hx hb dX6_readCommand_271 (lv_at hl 0 rfl) ?_
          refine lv_iconst (v := (mw 0)) hx hb dX6_readCommand_273 (by decide) ?_
          refine lv_icmp_ne (tgt := 279) hx hb dX6_readCommand_274 (by decide) (fun c_62 => ?_) (fun c_62 => absurd c_62 (nI_m1 (by omega)))
          refine lv_aload_n hx hb dX6_readCommand_279 rfl (lv_at hl 4 rfl) ?_
          refine lv_dup hx hb dX6_readCommand_280 rfl ?_
          refine x_get M hK hw 0 0 rfl rfl ff_X6_140 rfl dX6_readCommand_281 ?_
          refine lv_aload_n hx hb dX6_readCommand_284 rfl (lv_at hl 5 rfl) ?_
          refine lv_iload_n hx hb dX6_readCommand_285 rfl (lv_at hl 3 rfl) ?_
          refine lv_iload_n hx hb dX6_readCommand_286 rfl (lv_at hl 2 rfl) ?_
          refine lv_iload hx hb dX6_readCommand_287 (lv_at hl 1 rfl) ?_
          refine lv_iload hx hb dX6_readCommand_289 (lv_at hl 0 rfl) ?_
          refine x_cSI (As := [.ref a, .int (nI 118), .int (nI (lt (1 + sp) - 48)), .int (nI (lt (2 + sp) - 48)), .int (nI (numD lt (3 + sp) 3))]) (k_X6_does_v l G Y a (lt (1 + sp) - 48) (lt (2 + sp) - 48) (numD lt (3 + sp) 3) ρ (hI) (by omega) (by omega) (by omega)) cw_X6_143 [2] M hK hZ hw hl.1 rfl (by decide) ⟨by decide, by decide⟩ ⟨Nat.zero_le _, Nat.zero_le _⟩ rfl rfl (Nat.le_of_ble_eq_true rfl) dX6_readCommand_291 (fun r sg h_63 H locs hw => ?_)
          obtain ⟨rfl, rfl⟩ := h_63
          have hw : xW G A s.heap [[(mo, .inr (5, [.int (nI rf), .ref tx, .int (nI sz), .ref nw, .ref tr, .ref dy, .int (nI ac), .ref kp, .ref ik, .ref td, .ref ch, .int (nI (6 + sp)), .int (nI ou)]))], [(tx, .inl (Y 0, 120, .inl (rowF lt)))], [(a, .inl (Y 0, 140, .inl (rowF (dVal ρ (lt (1 + sp) - 48) (lt (2 + sp) - 48) (numD lt (3 + sp) 3)))))]] H locs := hw
          refine x_beq M (tgt := 301) dX6_readCommand_294 (by decide) (fun c_64 => ?_) (fun c_64 => ?_)
          · refine lv_iconst (v := (nI 1)) hx hb dX6_readCommand_301 (by decide) ?_
            refine x_iadd M (n := 1 + ou) dX6_readCommand_302 (by omega) ?_
            refine x_put M hK hw 0 0 rfl rfl fp_X6_140 rfl rfl (Nat.le_of_ble_eq_true rfl) dX6_readCommand_303 (fun H locs hw => ?_)
            have hw : xW G A s.heap [[(mo, .inr (5, [.int (nI rf), .ref tx, .int (nI sz), .ref nw, .ref tr, .ref dy, .int (nI ac), .ref kp, .ref ik, .ref td, .ref ch, .int (nI (6 + sp)), .int (nI (1 + ou))]))], [(tx, .inl (Y 0, 120, .inl (rowF lt)))], [(a, .inl (Y 0, 140, .inl (rowF (dVal ρ (lt (1 + sp) - 48) (lt (2 + sp) - 48) (numD lt (3 + sp) 3)))))]] H locs := hw
            refine lv_iconst (v := (nI 1)) hx hb dX6_readCommand_306 (by decide) ?_
            have hR : cmR ρ lt sp = dVal ρ (lt (1 + sp) - 48) (lt (2 + sp) - 48) (numD lt (3 + sp) 3) := by clear hret hw hl M hK hZ hx hb; unfold cmR; rw [if_neg (by omega), if_neg (by omega), if_pos (by omega), show sp + 1 = 1 + sp by omega, show sp + 2 = 2 + sp by omega, show sp + 3 = 3 + sp by omega, numD_1, numD_1]
            have hT : cmT ρ lt sp = tVal ρ (lt (1 + sp) - 48) (lt (2 + sp) - 48) (numD lt (3 + sp) 3) := by clear hret hw hl M hK hZ hx hb; unfold cmT; rw [if_neg (by omega), if_neg (by omega), if_pos (by omega), show sp + 1 = 1 + sp by omega, show sp + 2 = 2 + sp by omega, show sp + 3 = 3 + sp by omega, numD_1, numD_1]
            have hO : ou + cmO ρ lt sp = 1 + ou := by unfold cmO; rw [hT, if_neg (of_decide_eq_false c_64)]; omega
            have hS : sp + 1 + dgN (lt sp) = 6 + sp := by rw [hg]; omega
            exact hret _ _ _ (nI 1) _ _ dX6_readCommand_307 hw rfl rfl (Or.inr (Or.inr ⟨hid, fun q hq => by rcases (show q = 0 ∨ q = 1 ∨ q = 2 ∨ q = 3 ∨ q = 4 by omega) with rfl | rfl | rfl | rfl | rfl; exact (okq_118_0 e_2).mpr (by rw [show sp + 1 + 0 = 1 + sp by omega]; exact ⟨by omega, by omega, by omega⟩); exact (okq_118_1 e_2).mpr (by rw [show sp + 1 + 1 = 2 + sp by omega]; exact ⟨by omega, by omega, by omega⟩); exact (okq_118_2 e_2).mpr (by have h9 := fc55 0 (by decide); rw [show 3 + sp + 0 = 3 + sp by omega] at h9; rw [show sp + 1 + 2 = 3 + sp by omega]; exact ⟨h9.1, h9.2.1, h9.2.2⟩); exact (okq_118_3 e_2).mpr (by have h9 := fc55 1 (by decide); rw [show 3 + sp + 1 = 4 + sp by omega] at h9; rw [show sp + 1 + 3 = 4 + sp by omega]; exact ⟨h9.1, h9.2.1, h9.2.2⟩); exact (okq_118_4 e_2).mpr (by have h9 := fc55 2 (by decide); rw [show 3 + sp + 2 = 5 + sp by omega] at h9; rw [show sp + 1 + 4 = 5 + sp by omega]; exact ⟨h9.1, h9.2.1, h9.2.2⟩), rfl, by rw [hR, hO, hS]⟩))
          refine lv_iconst (v := (nI 0)) hx hb dX6_readCommand_297 (by decide) ?_
          refine lv_goto (tgt := 302) hx hb dX6_readCommand_298 (by decide) ?_
          refine x_iadd M (n := ou) dX6_readCommand_302 (by omega) ?_
          refine x_put M hK hw 0 0 rfl rfl fp_X6_140 rfl rfl (Nat.le_of_ble_eq_true rfl) dX6_readCommand_303 (fun H locs hw => ?_)
          have hw : xW G A s.heap [[(mo, .inr (5, [.int (nI rf), .ref tx, .int (nI sz), .ref nw, .ref tr, .ref dy, .int (nI ac), .ref kp, .ref ik, .ref td, .ref ch, .int (nI (6 + sp)), .int (nI ou)]))], [(tx, .inl (Y 0, 120, .inl (rowF lt)))], [(a, .inl (Y 0, 140, .inl (rowF (dVal ρ (lt (1 + sp) - 48) (lt (2 + sp) - 48) (numD lt (3 + sp) 3)))))]] H locs := hw
          refine lv_iconst (v := (nI 1)) hx hb dX6_readCommand_306 (by decide) ?_
          have hR : cmR ρ lt sp = dVal ρ (lt (1 + sp) - 48) (lt (2 + sp) - 48) (numD lt (3 + sp) 3) := by clear hret hw hl M hK hZ hx hb; unfold cmR; rw [if_neg (by omega), if_neg (by omega), if_pos (by omega), show sp + 1 = 1 + sp by omega, show sp + 2 = 2 + sp by omega, show sp + 3 = 3 + sp by omega, numD_1, numD_1]
          have hT : cmT ρ lt sp = tVal ρ (lt (1 + sp) - 48) (lt (2 + sp) - 48) (numD lt (3 + sp) 3) := by clear hret hw hl M hK hZ hx hb; unfold cmT; rw [if_neg (by omega), if_neg (by omega), if_pos (by omega), show sp + 1 = 1 + sp by omega, show sp + 2 = 2 + sp by omega, show sp + 3 = 3 + sp by omega, numD_1, numD_1]
          have hO : ou + cmO ρ lt sp = ou := by unfold cmO; rw [hT, if_pos (of_decide_eq_true c_64)]; rfl
          have hS : sp + 1 + dgN (lt sp) = 6 + sp := by rw [hg]; omega
          exact hret _ _ _ (nI 1) _ _ dX6_readCommand_307 hw rfl rfl (Or.inr (Or.inr ⟨hid, fun q hq => by rcases (show q = 0 ∨ q = 1 ∨ q = 2 ∨ q = 3 ∨ q = 4 by omega) with rfl | rfl | rfl | rfl | rfl; exact (okq_118_0 e_2).mpr (by rw [show sp + 1 + 0 = 1 + sp by omega]; exact ⟨by omega, by omega, by omega⟩); exact (okq_118_1 e_2).mpr (by rw [show sp + 1 + 1 = 2 + sp by omega]; exact ⟨by omega, by omega, by omega⟩); exact (okq_118_2 e_2).mpr (by have h9 := fc55 0 (by decide); rw [show 3 + sp + 0 = 3 + sp by omega] at h9; rw [show sp + 1 + 2 = 3 + sp by omega]; exact ⟨h9.1, h9.2.1, h9.2.2⟩); exact (okq_118_3 e_2).mpr (by have h9 := fc55 1 (by decide); rw [show 3 + sp + 1 = 4 + sp by omega] at h9; rw [show sp + 1 + 3 = 4 + sp by omega]; exact ⟨h9.1, h9.2.1, h9.2.2⟩); exact (okq_118_4 e_2).mpr (by have h9 := fc55 2 (by decide); rw [show 3 + sp + 2 = 5 + sp by omega] at h9; rw [show sp + 1 + 4 = 5 + sp by omega]; exact ⟨h9.1, h9.2.1, h9.2.2⟩), rfl, by rw [hR, hO, hS]⟩))
        · have hw : xW G A s.heap [[(mo, .inr (5, [.int (nI rf), .ref tx, .int (nI sz), .ref nw, .ref tr, .ref dy, .int (nI ac), .ref kp, .ref ik, .ref td, .ref ch, .int (nI ((3 + sp) + qb56)), .int (nI ou)]))], [(tx, .inl (Y 0, 120, .inl (rowF lt)))], [(a, .inl (Y 0, 140, .inl (rowF ρ)))]] H locs := hw
          rw [show ((3 + sp) + qb56) = 3 + sp + qb56 by omega] at hw
          refine lv_istore (lv' := [(5, .int (mw 0)), (4, .int (nI (lt (2 + sp) - 48))), (3, .int (nI (lt (1 + sp) - 48))), (2, .int (nI 118)), (0, .ref mo), (1, .ref a)]) hx hb dX6_readCommand_194 hl (by decide) rfl (fun ls hl => ?_)
          refine lv_goto (tgt := 260) hx hb dX6_readCommand_196 (by decide) ?_
          refine lv_iload_n hx hb dX6_readCommand_260 rfl (lv_at hl 2 rfl) ?_
          refine lv_iconst (v := (mw 0)) hx hb dX6_readCommand_261 (by decide) ?_
          refine lv_icmp_eq (tgt := 277) hx hb dX6_readCommand_262 (by decide) (fun c_65 => absurd c_65 (nI_m1 (by omega))) (fun c_65 => ?_)
          refine lv_iload hx hb dX6_readCommand_265 (lv_at hl 1 rfl) ?_
          refine lv_iconst (v := (mw 0)) hx hb dX6_readCommand_267 (by decide) ?_
          refine lv_icmp_eq (tgt := 277) hx hb dX6_readCommand_268 (by decide) (fun c_66 => absurd c_66 (nI_m1 (by omega))) (fun c_66 => ?_)
          refine lv_iload hx hb dX6_readCommand_271 (lv_at hl 0 rfl) ?_
          refine lv_iconst (v := (mw 0)) hx hb dX6_readCommand_273 (by decide) ?_
          refine lv_icmp_ne (tgt := 279) hx hb dX6_readCommand_274 (by decide) (fun c_67 => absurd c_67 (fun z => z rfl)) (fun c_67 => ?_)
          refine lv_iconst (v := (nI 0)) hx hb dX6_readCommand_277 (by decide) ?_
          rw [show (3 + sp + qb56 : Nat) = sp + 1 + (2 + qb56) by omega] at hw
          have hany : ∀ j, j < 3 → (okD lt sz sp (2 + j) (lt sp) ↔ (3 + sp + j < sz ∧ 48 ≤ lt (3 + sp + j) ∧ lt (3 + sp + j) ≤ 57)) := fun j hj => by rcases (show j = 0 ∨ j = 1 ∨ j = 2 by omega) with rfl | rfl | rfl; (rw [show 3 + sp + 0 = sp + 1 + 2 by omega]; exact okq_118_2 e_2); (rw [show 3 + sp + 1 = sp + 1 + 3 by omega]; exact okq_118_3 e_2); (rw [show 3 + sp + 2 = sp + 1 + 4 by omega]; exact okq_118_4 e_2)
          exact hret _ _ _ (nI 0) _ _ dX6_readCommand_278 hw rfl rfl (Or.inr (Or.inl ⟨hid, 2 + qb56, by omega, fun q hq => by rcases Nat.lt_or_ge q 2 with hz | hz; exact (show ∀ q, q < 2 → okD lt sz sp q (lt sp) from fun q hq => by rcases (show q = 0 ∨ q = 1 by omega) with rfl | rfl; exact (okq_118_0 e_2).mpr (by rw [show sp + 1 + 0 = 1 + sp by omega]; exact ⟨by omega, by omega, by omega⟩); exact (okq_118_1 e_2).mpr (by rw [show sp + 1 + 1 = 2 + sp by omega]; exact ⟨by omega, by omega, by omega⟩)) q hz; (have h9 := (hany (q - 2) (by omega)).mpr (fo58 (q - 2) (by omega)); rw [show 2 + (q - 2) = q by omega] at h9; exact h9), fun z => fc59 ((hany qb56 (by omega)).mp z), rfl, rfl⟩))
      · have hw : xW G A s.heap [[(mo, .inr (5, [.int (nI rf), .ref tx, .int (nI sz), .ref nw, .ref tr, .ref dy, .int (nI ac), .ref kp, .ref ik, .ref td, .ref ch, .int (nI (2 + sp)), .int (nI ou)]))], [(tx, .inl (Y 0, 120, .inl (rowF lt)))], [(a, .inl (Y 0, 140, .inl (rowF ρ)))]] H locs := hw
        rw [show (2 + sp) = 2 + sp by omega] at hw
        refine lv_istore (lv' := [(4, .int (mw 0)), (3, .int (nI (lt (1 + sp) - 48))), (5, .int (nI 0)), (2, .int (nI 118)), (0, .ref mo), (1, .ref a)]) hx hb dX6_readCommand_185 hl (by decide) rfl (fun ls hl => ?_)
        refine lv_aload_n hx hb dX6_readCommand_187 rfl (lv_at hl 4 rfl) ?_
        refine lv_iload hx hb dX6_readCommand_188 (lv_at hl 0 rfl) ?_
        refine lv_iconst (v := (nI 3)) hx hb dX6_readCommand_190 (by decide) ?_
        refine x_cVI (As := [.int (mw 0), .int (nI 3)]) (k_X6_figures_0 l G Y mo rf tx sz nw tr dy ac kp ik td ch (2 + sp) ou lt 3 (by omega) (by omega) (by omega) (by omega)) cw_X6_137 [0, 1] 0 0 M hK hZ hw hl.1 rfl (by decide) rfl rfl rfl ⟨by decide, by decide⟩ ⟨Nat.zero_le _, Nat.zero_le _⟩ rfl rfl (Nat.le_of_ble_eq_true rfl) dX6_readCommand_191 (fun r sg h_68 H locs hw => ?_)
        obtain ⟨rfl, rfl⟩ := h_68
        have hw : xW G A s.heap [[(mo, .inr (5, [.int (nI rf), .ref tx, .int (nI sz), .ref nw, .ref tr, .ref dy, .int (nI ac), .ref kp, .ref ik, .ref td, .ref ch, .int (nI (2 + sp)), .int (nI ou)]))], [(tx, .inl (Y 0, 120, .inl (rowF lt)))], [(a, .inl (Y 0, 140, .inl (rowF ρ)))]] H locs := hw
        refine lv_istore (lv' := [(5, .int (mw 0)), (4, .int (mw 0)), (3, .int (nI (lt (1 + sp) - 48))), (2, .int (nI 118)), (0, .ref mo), (1, .ref a)]) hx hb dX6_readCommand_194 hl (by decide) rfl (fun ls hl => ?_)
        refine lv_goto (tgt := 260) hx hb dX6_readCommand_196 (by decide) ?_
        refine lv_iload_n hx hb dX6_readCommand_260 rfl (lv_at hl 2 rfl) ?_
        refine lv_iconst (v := (mw 0)) hx hb dX6_readCommand_261 (by decide) ?_
        refine lv_icmp_eq (tgt := 277) hx hb dX6_readCommand_262 (by decide) (fun c_69 => absurd c_69 (nI_m1 (by omega))) (fun c_69 => ?_)
        refine lv_iload hx hb dX6_readCommand_265 (lv_at hl 1 rfl) ?_
        refine lv_iconst (v := (mw 0)) hx hb dX6_readCommand_267 (by decide) ?_
        refine lv_icmp_eq (tgt := 277) hx hb dX6_readCommand_268 (by decide) (fun c_70 => ?_) (fun c_70 => absurd c_70 (fun z => z rfl))
        refine lv_iconst (v := (nI 0)) hx hb dX6_readCommand_277 (by decide) ?_
        rw [show ((2 + sp) : Nat) = sp + 1 + 1 by omega] at hw
        exact hret _ _ _ (nI 0) _ _ dX6_readCommand_278 hw rfl rfl (Or.inr (Or.inl ⟨hid, 1, by omega, fun q hq => by rcases (show q = 0 by omega) with rfl; exact (okq_118_0 e_2).mpr (by rw [show sp + 1 + 0 = 1 + sp by omega]; exact ⟨by omega, by omega, by omega⟩), fun z => fc53 (by have h8 := (okq_118_1 e_2).mp z; rw [show sp + 1 + 1 = 2 + sp by omega] at h8; exact ⟨h8.1, by omega, by omega⟩), rfl, rfl⟩))
    · have hw : xW G A s.heap [[(mo, .inr (5, [.int (nI rf), .ref tx, .int (nI sz), .ref nw, .ref tr, .ref dy, .int (nI ac), .ref kp, .ref ik, .ref td, .ref ch, .int (nI (1 + sp)), .int (nI ou)]))], [(tx, .inl (Y 0, 120, .inl (rowF lt)))], [(a, .inl (Y 0, 140, .inl (rowF ρ)))]] H locs := hw
      rw [show (1 + sp) = 1 + sp by omega] at hw
      refine lv_istore_n (lv' := [(3, .int (mw 0)), (5, .int (nI 0)), (4, .int (nI 0)), (2, .int (nI 118)), (0, .ref mo), (1, .ref a)]) hx hb dX6_readCommand_169 rfl hl (by decide) rfl (fun ls hl => ?_)
      refine lv_iload_n hx hb dX6_readCommand_170 rfl (lv_at hl 0 rfl) ?_
      refine lv_iconst (v := (mw 0)) hx hb dX6_readCommand_171 (by decide) ?_
      refine lv_icmp_ne (tgt := 179) hx hb dX6_readCommand_172 (by decide) (fun c_71 => absurd c_71 (fun z => z rfl)) (fun c_71 => ?_)
      refine lv_iconst (v := (mw 0)) hx hb dX6_readCommand_175 (by decide) ?_
      refine lv_goto (tgt := 185) hx hb dX6_readCommand_176 (by decide) ?_
      refine lv_istore (lv' := [(4, .int (mw 0)), (3, .int (mw 0)), (5, .int (nI 0)), (2, .int (nI 118)), (0, .ref mo), (1, .ref a)]) hx hb dX6_readCommand_185 hl (by decide) rfl (fun ls hl => ?_)
      refine lv_aload_n hx hb dX6_readCommand_187 rfl (lv_at hl 4 rfl) ?_
      refine lv_iload hx hb dX6_readCommand_188 (lv_at hl 0 rfl) ?_
      refine lv_iconst (v := (nI 3)) hx hb dX6_readCommand_190 (by decide) ?_
      refine x_cVI (As := [.int (mw 0), .int (nI 3)]) (k_X6_figures_0 l G Y mo rf tx sz nw tr dy ac kp ik td ch (1 + sp) ou lt 3 (by omega) (by omega) (by omega) (by omega)) cw_X6_137 [0, 1] 0 0 M hK hZ hw hl.1 rfl (by decide) rfl rfl rfl ⟨by decide, by decide⟩ ⟨Nat.zero_le _, Nat.zero_le _⟩ rfl rfl (Nat.le_of_ble_eq_true rfl) dX6_readCommand_191 (fun r sg h_72 H locs hw => ?_)
      obtain ⟨rfl, rfl⟩ := h_72
      have hw : xW G A s.heap [[(mo, .inr (5, [.int (nI rf), .ref tx, .int (nI sz), .ref nw, .ref tr, .ref dy, .int (nI ac), .ref kp, .ref ik, .ref td, .ref ch, .int (nI (1 + sp)), .int (nI ou)]))], [(tx, .inl (Y 0, 120, .inl (rowF lt)))], [(a, .inl (Y 0, 140, .inl (rowF ρ)))]] H locs := hw
      refine lv_istore (lv' := [(5, .int (mw 0)), (4, .int (mw 0)), (3, .int (mw 0)), (2, .int (nI 118)), (0, .ref mo), (1, .ref a)]) hx hb dX6_readCommand_194 hl (by decide) rfl (fun ls hl => ?_)
      refine lv_goto (tgt := 260) hx hb dX6_readCommand_196 (by decide) ?_
      refine lv_iload_n hx hb dX6_readCommand_260 rfl (lv_at hl 2 rfl) ?_
      refine lv_iconst (v := (mw 0)) hx hb dX6_readCommand_261 (by decide) ?_
      refine lv_icmp_eq (tgt := 277) hx hb dX6_readCommand_262 (by decide) (fun c_73 => ?_) (fun c_73 => absurd c_73 (fun z => z rfl))
      refine lv_iconst (v := (nI 0)) hx hb dX6_readCommand_277 (by decide) ?_
      rw [show ((1 + sp) : Nat) = sp + 1 + 0 by omega] at hw
      exact hret _ _ _ (nI 0) _ _ dX6_readCommand_278 hw rfl rfl (Or.inr (Or.inl ⟨hid, 0, by omega, fun q hq => absurd hq (Nat.not_lt_zero _), fun z => fc49 (by have h8 := (okq_118_0 e_2).mp z; rw [show sp + 1 + 0 = 1 + sp by omega] at h8; exact ⟨h8.1, by omega, by omega⟩), rfl, rfl⟩))
  · refine x_topN (n := 113) (congrArg nI e_2) ?_
    refine lv_lookup (tgt := 199) hx hb dX6_readCommand_29 (by decide) rfl (by decide) ?_
    rw [e_2] at hl
    have hid : idxC (lt sp) ≠ 0 := by rw [e_2]; decide
    have hg : dgN (lt sp) = 3 := by rw [e_2]; rfl
    refine lv_aload_n hx hb dX6_readCommand_199 rfl (lv_at hl 4 rfl) ?_
    refine lv_iconst (v := (nI 0)) hx hb dX6_readCommand_200 (by decide) ?_
    refine lv_iconst (v := (nI 5)) hx hb dX6_readCommand_201 (by decide) ?_
    refine x_cVI (As := [.int (nI 0), .int (nI 5)]) (k_X6_figure l G Y mo rf tx sz nw tr dy ac kp ik td ch (1 + sp) ou lt 0 5 (by omega) (by omega) (by omega) (by omega) (by omega)) cw_X6_109 [0, 1] 0 0 M hK hZ hw hl.1 rfl (by decide) rfl rfl rfl ⟨by decide, by decide⟩ ⟨Nat.zero_le _, Nat.zero_le _⟩ rfl rfl (Nat.le_of_ble_eq_true rfl) dX6_readCommand_202 (fun r sg h_74 H locs hw => ?_)
    rcases h_74 with ⟨fc75, rfl, rfl⟩ | ⟨fc76, rfl, rfl⟩
    · have hw : xW G A s.heap [[(mo, .inr (5, [.int (nI rf), .ref tx, .int (nI sz), .ref nw, .ref tr, .ref dy, .int (nI ac), .ref kp, .ref ik, .ref td, .ref ch, .int (nI (1 + (1 + sp))), .int (nI ou)]))], [(tx, .inl (Y 0, 120, .inl (rowF lt)))], [(a, .inl (Y 0, 140, .inl (rowF ρ)))]] H locs := hw
      rw [show (1 + (1 + sp)) = 2 + sp by omega] at hw
      obtain ⟨_, _, _⟩ := id fc75
      refine lv_istore_n (lv' := [(3, .int (nI (lt (1 + sp) - 48))), (5, .int (nI 0)), (4, .int (nI 0)), (2, .int (nI 113)), (0, .ref mo), (1, .ref a)]) hx hb dX6_readCommand_205 rfl hl (by decide) rfl (fun ls hl => ?_)
      refine lv_iload_n hx hb dX6_readCommand_206 rfl (lv_at hl 0 rfl) ?_
      refine lv_iconst (v := (mw 0)) hx hb dX6_readCommand_207 (by decide) ?_
      refine lv_icmp_ne (tgt := 215) hx hb dX6_readCommand_208 (by decide) (fun c_77 => ?_) (fun c_77 => absurd c_77 (nI_m1 (by omega)))
      refine lv_aload_n hx hb dX6_readCommand_215 rfl (lv_at hl 4 rfl) ?_
      refine lv_iconst (v := (nI 0)) hx hb dX6_readCommand_216 (by decide) ?_
      refine lv_iconst (v := (nI 2)) hx hb dX6_readCommand_217 (by decide) ?_
      refine x_cVI (As := [.int (nI 0), .int (nI 2)]) (k_X6_figure l G Y mo rf tx sz nw tr dy ac kp ik td ch (2 + sp) ou lt 0 2 (by omega) (by omega) (by omega) (by omega) (by omega)) cw_X6_109 [0, 1] 0 0 M hK hZ hw hl.1 rfl (by decide) rfl rfl rfl ⟨by decide, by decide⟩ ⟨Nat.zero_le _, Nat.zero_le _⟩ rfl rfl (Nat.le_of_ble_eq_true rfl) dX6_readCommand_218 (fun r sg h_78 H locs hw => ?_)
      rcases h_78 with ⟨fc79, rfl, rfl⟩ | ⟨fc80, rfl, rfl⟩
      · have hw : xW G A s.heap [[(mo, .inr (5, [.int (nI rf), .ref tx, .int (nI sz), .ref nw, .ref tr, .ref dy, .int (nI ac), .ref kp, .ref ik, .ref td, .ref ch, .int (nI (1 + (2 + sp))), .int (nI ou)]))], [(tx, .inl (Y 0, 120, .inl (rowF lt)))], [(a, .inl (Y 0, 140, .inl (rowF ρ)))]] H locs := hw
        rw [show (1 + (2 + sp)) = 3 + sp by omega] at hw
        obtain ⟨_, _, _⟩ := id fc79
        refine lv_istore (lv' := [(4, .int (nI (lt (2 + sp) - 48))), (3, .int (nI (lt (1 + sp) - 48))), (5, .int (nI 0)), (2, .int (nI 113)), (0, .ref mo), (1, .ref a)]) hx hb dX6_readCommand_221 hl (by decide) rfl (fun ls hl => ?_)
        refine lv_aload_n hx hb dX6_readCommand_223 rfl (lv_at hl 4 rfl) ?_
        refine lv_iload hx hb dX6_readCommand_224 (lv_at hl 0 rfl) ?_
        refine lv_iconst (v := (nI 1)) hx hb dX6_readCommand_226 (by decide) ?_
        refine x_cVI (As := [.int (nI (lt (2 + sp) - 48)), .int (nI 1)]) (k_X6_figures_1 l G Y mo rf tx sz nw tr dy ac kp ik td ch (3 + sp) ou lt (lt (2 + sp) - 48) (by omega) (by omega) (by omega) (by omega)) cw_X6_137 [0, 1] 0 0 M hK hZ hw hl.1 rfl (by decide) rfl rfl rfl ⟨by decide, by decide⟩ ⟨Nat.zero_le _, Nat.zero_le _⟩ rfl rfl (Nat.le_of_ble_eq_true rfl) dX6_readCommand_227 (fun r sg h_81 H locs hw => ?_)
        rcases h_81 with ⟨fc82, rfl, rfl⟩ | ⟨qb83, fq84, fo85, fc86, rfl, rfl⟩
        · have hw : xW G A s.heap [[(mo, .inr (5, [.int (nI rf), .ref tx, .int (nI sz), .ref nw, .ref tr, .ref dy, .int (nI ac), .ref kp, .ref ik, .ref td, .ref ch, .int (nI (1 + (3 + sp))), .int (nI ou)]))], [(tx, .inl (Y 0, 120, .inl (rowF lt)))], [(a, .inl (Y 0, 140, .inl (rowF ρ)))]] H locs := hw
          rw [show (1 + (3 + sp)) = 4 + sp by omega] at hw
          obtain ⟨_, _, _⟩ := fc82 0 (by decide)
          have hn9 : numD lt (3 + sp) 1 ≤ 999 := numD_le (fun q hq => (fc82 q hq).2.2) (by decide)
          refine lv_istore (lv' := [(5, .int (nI (numD lt (3 + sp) 1))), (4, .int (nI (lt (2 + sp) - 48))), (3, .int (nI (lt (1 + sp) - 48))), (2, .int (nI 113)), (0, .ref mo), (1, .ref a)]) hx hb dX6_readCommand_230 hl (by decide) rfl (fun ls hl => ?_)
          refine lv_goto (tgt := 260) hx hb dX6_readCommand_232 (by decide) ?_
          refine lv_iload_n hx hb dX6_readCommand_260 rfl (lv_at hl 2 rfl) ?_
          refine lv_iconst (v := (mw 0)) hx hb dX6_readCommand_261 (by decide) ?_
          refine lv_icmp_eq (tgt := 277) hx hb dX6_readCommand_262 (by decide) (fun c_87 => absurd c_87 (nI_m1 (by omega))) (fun c_87 => ?_)
          refine lv_iload hx hb dX6_readCommand_265 (lv_at hl 1 rfl) ?_
          refine lv_iconst (v := (mw 0)) hx hb dX6_readCommand_267 (by decide) ?_
          refine lv_icmp_eq (tgt := 277) hx hb dX6_readCommand_268 (by decide) (fun c_88 => absurd c_88 (nI_m1 (by omega))) (fun c_88 => ?_)
          refine lv_iload hx hb dX6_readCommand_271 (lv_at hl 0 rfl) ?_
          refine lv_iconst (v := (mw 0)) hx hb dX6_readCommand_273 (by decide) ?_
          refine lv_icmp_ne (tgt := 279) hx hb dX6_readCommand_274 (by decide) (fun c_89 => ?_) (fun c_89 => absurd c_89 (nI_m1 (by omega)))
          refine lv_aload_n hx hb dX6_readCommand_279 rfl (lv_at hl 4 rfl) ?_
          refine lv_dup hx hb dX6_readCommand_280 rfl ?_
          refine x_get M hK hw 0 0 rfl rfl ff_X6_140 rfl dX6_readCommand_281 ?_
          refine lv_aload_n hx hb dX6_readCommand_284 rfl (lv_at hl 5 rfl) ?_
          refine lv_iload_n hx hb dX6_readCommand_285 rfl (lv_at hl 3 rfl) ?_
          refine lv_iload_n hx hb dX6_readCommand_286 rfl (lv_at hl 2 rfl) ?_
          refine lv_iload hx hb dX6_readCommand_287 (lv_at hl 1 rfl) ?_
          refine lv_iload hx hb dX6_readCommand_289 (lv_at hl 0 rfl) ?_
          refine x_cSI (As := [.ref a, .int (nI 113), .int (nI (lt (1 + sp) - 48)), .int (nI (lt (2 + sp) - 48)), .int (nI (numD lt (3 + sp) 1))]) (k_X6_does_q l G Y a (lt (1 + sp) - 48) (lt (2 + sp) - 48) (numD lt (3 + sp) 1) ρ (hI) (by omega) (by omega) (by omega)) cw_X6_143 [2] M hK hZ hw hl.1 rfl (by decide) ⟨by decide, by decide⟩ ⟨Nat.zero_le _, Nat.zero_le _⟩ rfl rfl (Nat.le_of_ble_eq_true rfl) dX6_readCommand_291 (fun r sg h_90 H locs hw => ?_)
          obtain ⟨rfl, rfl⟩ := h_90
          have hw : xW G A s.heap [[(mo, .inr (5, [.int (nI rf), .ref tx, .int (nI sz), .ref nw, .ref tr, .ref dy, .int (nI ac), .ref kp, .ref ik, .ref td, .ref ch, .int (nI (4 + sp)), .int (nI ou)]))], [(tx, .inl (Y 0, 120, .inl (rowF lt)))], [(a, .inl (Y 0, 140, .inl (rowF (dAsk ρ (lt (1 + sp) - 48) (lt (2 + sp) - 48) (numD lt (3 + sp) 1)))))]] H locs := hw
          refine x_beq M (tgt := 301) dX6_readCommand_294 (by decide) (fun c_91 => ?_) (fun c_91 => ?_)
          · refine lv_iconst (v := (nI 1)) hx hb dX6_readCommand_301 (by decide) ?_
            refine x_iadd M (n := 1 + ou) dX6_readCommand_302 (by omega) ?_
            refine x_put M hK hw 0 0 rfl rfl fp_X6_140 rfl rfl (Nat.le_of_ble_eq_true rfl) dX6_readCommand_303 (fun H locs hw => ?_)
            have hw : xW G A s.heap [[(mo, .inr (5, [.int (nI rf), .ref tx, .int (nI sz), .ref nw, .ref tr, .ref dy, .int (nI ac), .ref kp, .ref ik, .ref td, .ref ch, .int (nI (4 + sp)), .int (nI (1 + ou))]))], [(tx, .inl (Y 0, 120, .inl (rowF lt)))], [(a, .inl (Y 0, 140, .inl (rowF (dAsk ρ (lt (1 + sp) - 48) (lt (2 + sp) - 48) (numD lt (3 + sp) 1)))))]] H locs := hw
            refine lv_iconst (v := (nI 1)) hx hb dX6_readCommand_306 (by decide) ?_
            have hR : cmR ρ lt sp = dAsk ρ (lt (1 + sp) - 48) (lt (2 + sp) - 48) (numD lt (3 + sp) 1) := by clear hret hw hl M hK hZ hx hb; unfold cmR; rw [if_neg (by omega), if_neg (by omega), if_neg (by omega), if_pos (by omega), show sp + 1 = 1 + sp by omega, show sp + 2 = 2 + sp by omega, show sp + 3 = 3 + sp by omega, numD_1, numD_1]
            have hT : cmT ρ lt sp = tAsk ρ (lt (1 + sp) - 48) (lt (2 + sp) - 48) (numD lt (3 + sp) 1) := by clear hret hw hl M hK hZ hx hb; unfold cmT; rw [if_neg (by omega), if_neg (by omega), if_neg (by omega), if_pos (by omega), show sp + 1 = 1 + sp by omega, show sp + 2 = 2 + sp by omega, show sp + 3 = 3 + sp by omega, numD_1, numD_1]
            have hO : ou + cmO ρ lt sp = 1 + ou := by unfold cmO; rw [hT, if_neg (of_decide_eq_false c_91)]; omega
            have hS : sp + 1 + dgN (lt sp) = 4 + sp := by rw [hg]; omega
            exact hret _ _ _ (nI 1) _ _ dX6_readCommand_307 hw rfl rfl (Or.inr (Or.inr ⟨hid, fun q hq => by rcases (show q = 0 ∨ q = 1 ∨ q = 2 by omega) with rfl | rfl | rfl; exact (okq_113_0 e_2).mpr (by rw [show sp + 1 + 0 = 1 + sp by omega]; exact ⟨by omega, by omega, by omega⟩); exact (okq_113_1 e_2).mpr (by rw [show sp + 1 + 1 = 2 + sp by omega]; exact ⟨by omega, by omega, by omega⟩); exact (okq_113_2 e_2).mpr (by have h9 := fc82 0 (by decide); rw [show 3 + sp + 0 = 3 + sp by omega] at h9; rw [show sp + 1 + 2 = 3 + sp by omega]; exact ⟨h9.1, h9.2.1, h9.2.2⟩), rfl, by rw [hR, hO, hS]⟩))
          refine lv_iconst (v := (nI 0)) hx hb dX6_readCommand_297 (by decide) ?_
          refine lv_goto (tgt := 302) hx hb dX6_readCommand_298 (by decide) ?_
          refine x_iadd M (n := ou) dX6_readCommand_302 (by omega) ?_
          refine x_put M hK hw 0 0 rfl rfl fp_X6_140 rfl rfl (Nat.le_of_ble_eq_true rfl) dX6_readCommand_303 (fun H locs hw => ?_)
          have hw : xW G A s.heap [[(mo, .inr (5, [.int (nI rf), .ref tx, .int (nI sz), .ref nw, .ref tr, .ref dy, .int (nI ac), .ref kp, .ref ik, .ref td, .ref ch, .int (nI (4 + sp)), .int (nI ou)]))], [(tx, .inl (Y 0, 120, .inl (rowF lt)))], [(a, .inl (Y 0, 140, .inl (rowF (dAsk ρ (lt (1 + sp) - 48) (lt (2 + sp) - 48) (numD lt (3 + sp) 1)))))]] H locs := hw
          refine lv_iconst (v := (nI 1)) hx hb dX6_readCommand_306 (by decide) ?_
          have hR : cmR ρ lt sp = dAsk ρ (lt (1 + sp) - 48) (lt (2 + sp) - 48) (numD lt (3 + sp) 1) := by clear hret hw hl M hK hZ hx hb; unfold cmR; rw [if_neg (by omega), if_neg (by omega), if_neg (by omega), if_pos (by omega), show sp + 1 = 1 + sp by omega, show sp + 2 = 2 + sp by omega, show sp + 3 = 3 + sp by omega, numD_1, numD_1]
          have hT : cmT ρ lt sp = tAsk ρ (lt (1 + sp) - 48) (lt (2 + sp) - 48) (numD lt (3 + sp) 1) := by clear hret hw hl M hK hZ hx hb; unfold cmT; rw [if_neg (by omega), if_neg (by omega), if_neg (by omega), if_pos (by omega), show sp + 1 = 1 + sp by omega, show sp + 2 = 2 + sp by omega, show sp + 3 = 3 + sp by omega, numD_1, numD_1]
          have hO : ou + cmO ρ lt sp = ou := by unfold cmO; rw [hT, if_pos (of_decide_eq_true c_91)]; rfl
          have hS : sp + 1 + dgN (lt sp) = 4 + sp := by rw [hg]; omega
          exact hret _ _ _ (nI 1) _ _ dX6_readCommand_307 hw rfl rfl (Or.inr (Or.inr ⟨hid, fun q hq => by rcases (show q = 0 ∨ q = 1 ∨ q = 2 by omega) with rfl | rfl | rfl; exact (okq_113_0 e_2).mpr (by rw [show sp + 1 + 0 = 1 + sp by omega]; exact ⟨by omega, by omega, by omega⟩); exact (okq_113_1 e_2).mpr (by rw [show sp + 1 + 1 = 2 + sp by omega]; exact ⟨by omega, by omega, by omega⟩); exact (okq_113_2 e_2).mpr (by have h9 := fc82 0 (by decide); rw [show 3 + sp + 0 = 3 + sp by omega] at h9; rw [show sp + 1 + 2 = 3 + sp by omega]; exact ⟨h9.1, h9.2.1, h9.2.2⟩), rfl, by rw [hR, hO, hS]⟩))
        · have hw : xW G A s.heap [[(mo, .inr (5, [.int (nI rf), .ref tx, .int (nI sz), .ref nw, .ref tr, .ref dy, .int (nI ac), .ref kp, .ref ik, .ref td, .ref ch, .int (nI ((3 + sp) + qb83)), .int (nI ou)]))], [(tx, .inl (Y 0, 120, .inl (rowF lt)))], [(a, .inl (Y 0, 140, .inl (rowF ρ)))]] H locs := hw
          rw [show ((3 + sp) + qb83) = 3 + sp + qb83 by omega] at hw
          refine lv_istore (lv' := [(5, .int (mw 0)), (4, .int (nI (lt (2 + sp) - 48))), (3, .int (nI (lt (1 + sp) - 48))), (2, .int (nI 113)), (0, .ref mo), (1, .ref a)]) hx hb dX6_readCommand_230 hl (by decide) rfl (fun ls hl => ?_)
          refine lv_goto (tgt := 260) hx hb dX6_readCommand_232 (by decide) ?_
          refine lv_iload_n hx hb dX6_readCommand_260 rfl (lv_at hl 2 rfl) ?_
          refine lv_iconst (v := (mw 0)) hx hb dX6_readCommand_261 (by decide) ?_
          refine lv_icmp_eq (tgt := 277) hx hb dX6_readCommand_262 (by decide) (fun c_92 => absurd c_92 (nI_m1 (by omega))) (fun c_92 => ?_)
          refine lv_iload hx hb dX6_readCommand_265 (lv_at hl 1 rfl) ?_
          refine lv_iconst (v := (mw 0)) hx hb dX6_readCommand_267 (by decide) ?_
          refine lv_icmp_eq (tgt := 277) hx hb dX6_readCommand_268 (by decide) (fun c_93 => absurd c_93 (nI_m1 (by omega))) (fun c_93 => ?_)
          refine lv_iload hx hb dX6_readCommand_271 (lv_at hl 0 rfl) ?_
          refine lv_iconst (v := (mw 0)) hx hb dX6_readCommand_273 (by decide) ?_
          refine lv_icmp_ne (tgt := 279) hx hb dX6_readCommand_274 (by decide) (fun c_94 => absurd c_94 (fun z => z rfl)) (fun c_94 => ?_)
          refine lv_iconst (v := (nI 0)) hx hb dX6_readCommand_277 (by decide) ?_
          rw [show (3 + sp + qb83 : Nat) = sp + 1 + (2 + qb83) by omega] at hw
          have hany : ∀ j, j < 1 → (okD lt sz sp (2 + j) (lt sp) ↔ (3 + sp + j < sz ∧ 48 ≤ lt (3 + sp + j) ∧ lt (3 + sp + j) ≤ 57)) := fun j hj => by rcases (show j = 0 by omega) with rfl; (rw [show 3 + sp + 0 = sp + 1 + 2 by omega]; exact okq_113_2 e_2)
          exact hret _ _ _ (nI 0) _ _ dX6_readCommand_278 hw rfl rfl (Or.inr (Or.inl ⟨hid, 2 + qb83, by omega, fun q hq => by rcases Nat.lt_or_ge q 2 with hz | hz; exact (show ∀ q, q < 2 → okD lt sz sp q (lt sp) from fun q hq => by rcases (show q = 0 ∨ q = 1 by omega) with rfl | rfl; exact (okq_113_0 e_2).mpr (by rw [show sp + 1 + 0 = 1 + sp by omega]; exact ⟨by omega, by omega, by omega⟩); exact (okq_113_1 e_2).mpr (by rw [show sp + 1 + 1 = 2 + sp by omega]; exact ⟨by omega, by omega, by omega⟩)) q hz; (have h9 := (hany (q - 2) (by omega)).mpr (fo85 (q - 2) (by omega)); rw [show 2 + (q - 2) = q by omega] at h9; exact h9), fun z => fc86 ((hany qb83 (by omega)).mp z), rfl, rfl⟩))
      · have hw : xW G A s.heap [[(mo, .inr (5, [.int (nI rf), .ref tx, .int (nI sz), .ref nw, .ref tr, .ref dy, .int (nI ac), .ref kp, .ref ik, .ref td, .ref ch, .int (nI (2 + sp)), .int (nI ou)]))], [(tx, .inl (Y 0, 120, .inl (rowF lt)))], [(a, .inl (Y 0, 140, .inl (rowF ρ)))]] H locs := hw
        rw [show (2 + sp) = 2 + sp by omega] at hw
        refine lv_istore (lv' := [(4, .int (mw 0)), (3, .int (nI (lt (1 + sp) - 48))), (5, .int (nI 0)), (2, .int (nI 113)), (0, .ref mo), (1, .ref a)]) hx hb dX6_readCommand_221 hl (by decide) rfl (fun ls hl => ?_)
        refine lv_aload_n hx hb dX6_readCommand_223 rfl (lv_at hl 4 rfl) ?_
        refine lv_iload hx hb dX6_readCommand_224 (lv_at hl 0 rfl) ?_
        refine lv_iconst (v := (nI 1)) hx hb dX6_readCommand_226 (by decide) ?_
        refine x_cVI (As := [.int (mw 0), .int (nI 1)]) (k_X6_figures_0 l G Y mo rf tx sz nw tr dy ac kp ik td ch (2 + sp) ou lt 1 (by omega) (by omega) (by omega) (by omega)) cw_X6_137 [0, 1] 0 0 M hK hZ hw hl.1 rfl (by decide) rfl rfl rfl ⟨by decide, by decide⟩ ⟨Nat.zero_le _, Nat.zero_le _⟩ rfl rfl (Nat.le_of_ble_eq_true rfl) dX6_readCommand_227 (fun r sg h_95 H locs hw => ?_)
        obtain ⟨rfl, rfl⟩ := h_95
        have hw : xW G A s.heap [[(mo, .inr (5, [.int (nI rf), .ref tx, .int (nI sz), .ref nw, .ref tr, .ref dy, .int (nI ac), .ref kp, .ref ik, .ref td, .ref ch, .int (nI (2 + sp)), .int (nI ou)]))], [(tx, .inl (Y 0, 120, .inl (rowF lt)))], [(a, .inl (Y 0, 140, .inl (rowF ρ)))]] H locs := hw
        refine lv_istore (lv' := [(5, .int (mw 0)), (4, .int (mw 0)), (3, .int (nI (lt (1 + sp) - 48))), (2, .int (nI 113)), (0, .ref mo), (1, .ref a)]) hx hb dX6_readCommand_230 hl (by decide) rfl (fun ls hl => ?_)
        refine lv_goto (tgt := 260) hx hb dX6_readCommand_232 (by decide) ?_
        refine lv_iload_n hx hb dX6_readCommand_260 rfl (lv_at hl 2 rfl) ?_
        refine lv_iconst (v := (mw 0)) hx hb dX6_readCommand_261 (by decide) ?_
        refine lv_icmp_eq (tgt := 277) hx hb dX6_readCommand_262 (by decide) (fun c_96 => absurd c_96 (nI_m1 (by omega))) (fun c_96 => ?_)
        refine lv_iload hx hb dX6_readCommand_265 (lv_at hl 1 rfl) ?_
        refine lv_iconst (v := (mw 0)) hx hb dX6_readCommand_267 (by decide) ?_
        refine lv_icmp_eq (tgt := 277) hx hb dX6_readCommand_268 (by decide) (fun c_97 => ?_) (fun c_97 => absurd c_97 (fun z => z rfl))
        refine lv_iconst (v := (nI 0)) hx hb dX6_readCommand_277 (by decide) ?_
        rw [show ((2 + sp) : Nat) = sp + 1 + 1 by omega] at hw
        exact hret _ _ _ (nI 0) _ _ dX6_readCommand_278 hw rfl rfl (Or.inr (Or.inl ⟨hid, 1, by omega, fun q hq => by rcases (show q = 0 by omega) with rfl; exact (okq_113_0 e_2).mpr (by rw [show sp + 1 + 0 = 1 + sp by omega]; exact ⟨by omega, by omega, by omega⟩), fun z => fc80 (by have h8 := (okq_113_1 e_2).mp z; rw [show sp + 1 + 1 = 2 + sp by omega] at h8; exact ⟨h8.1, by omega, by omega⟩), rfl, rfl⟩))
    · have hw : xW G A s.heap [[(mo, .inr (5, [.int (nI rf), .ref tx, .int (nI sz), .ref nw, .ref tr, .ref dy, .int (nI ac), .ref kp, .ref ik, .ref td, .ref ch, .int (nI (1 + sp)), .int (nI ou)]))], [(tx, .inl (Y 0, 120, .inl (rowF lt)))], [(a, .inl (Y 0, 140, .inl (rowF ρ)))]] H locs := hw
      rw [show (1 + sp) = 1 + sp by omega] at hw
      refine lv_istore_n (lv' := [(3, .int (mw 0)), (5, .int (nI 0)), (4, .int (nI 0)), (2, .int (nI 113)), (0, .ref mo), (1, .ref a)]) hx hb dX6_readCommand_205 rfl hl (by decide) rfl (fun ls hl => ?_)
      refine lv_iload_n hx hb dX6_readCommand_206 rfl (lv_at hl 0 rfl) ?_
      refine lv_iconst (v := (mw 0)) hx hb dX6_readCommand_207 (by decide) ?_
      refine lv_icmp_ne (tgt := 215) hx hb dX6_readCommand_208 (by decide) (fun c_98 => absurd c_98 (fun z => z rfl)) (fun c_98 => ?_)
      refine lv_iconst (v := (mw 0)) hx hb dX6_readCommand_211 (by decide) ?_
      refine lv_goto (tgt := 221) hx hb dX6_readCommand_212 (by decide) ?_
      refine lv_istore (lv' := [(4, .int (mw 0)), (3, .int (mw 0)), (5, .int (nI 0)), (2, .int (nI 113)), (0, .ref mo), (1, .ref a)]) hx hb dX6_readCommand_221 hl (by decide) rfl (fun ls hl => ?_)
      refine lv_aload_n hx hb dX6_readCommand_223 rfl (lv_at hl 4 rfl) ?_
      refine lv_iload hx hb dX6_readCommand_224 (lv_at hl 0 rfl) ?_
      refine lv_iconst (v := (nI 1)) hx hb dX6_readCommand_226 (by decide) ?_
      refine x_cVI (As := [.int (mw 0), .int (nI 1)]) (k_X6_figures_0 l G Y mo rf tx sz nw tr dy ac kp ik td ch (1 + sp) ou lt 1 (by omega) (by omega) (by omega) (by omega)) cw_X6_137 [0, 1] 0 0 M hK hZ hw hl.1 rfl (by decide) rfl rfl rfl ⟨by decide, by decide⟩ ⟨Nat.zero_le _, Nat.zero_le _⟩ rfl rfl (Nat.le_of_ble_eq_true rfl) dX6_readCommand_227 (fun r sg h_99 H locs hw => ?_)
      obtain ⟨rfl, rfl⟩ := h_99
      have hw : xW G A s.heap [[(mo, .inr (5, [.int (nI rf), .ref tx, .int (nI sz), .ref nw, .ref tr, .ref dy, .int (nI ac), .ref kp, .ref ik, .ref td, .ref ch, .int (nI (1 + sp)), .int (nI ou)]))], [(tx, .inl (Y 0, 120, .inl (rowF lt)))], [(a, .inl (Y 0, 140, .inl (rowF ρ)))]] H locs := hw
      refine lv_istore (lv' := [(5, .int (mw 0)), (4, .int (mw 0)), (3, .int (mw 0)), (2, .int (nI 113)), (0, .ref mo), (1, .ref a)]) hx hb dX6_readCommand_230 hl (by decide) rfl (fun ls hl => ?_)
      refine lv_goto (tgt := 260) hx hb dX6_readCommand_232 (by decide) ?_
      refine lv_iload_n hx hb dX6_readCommand_260 rfl (lv_at hl 2 rfl) ?_
      refine lv_iconst (v := (mw 0)) hx hb dX6_readCommand_261 (by decide) ?_
      refine lv_icmp_eq (tgt := 277) hx hb dX6_readCommand_262 (by decide) (fun c_100 => ?_) (fun c_100 => absurd c_100 (fun z => z rfl))
      refine lv_iconst (v := (nI 0)) hx hb dX6_readCommand_277 (by decide) ?_
      rw [show ((1 + sp) : Nat) = sp + 1 + 0 by omega] at hw
      exact hret _ _ _ (nI 0) _ _ dX6_readCommand_278 hw rfl rfl (Or.inr (Or.inl ⟨hid, 0, by omega, fun q hq => absurd hq (Nat.not_lt_zero _), fun z => fc76 (by have h8 := (okq_113_0 e_2).mp z; rw [show sp + 1 + 0 = 1 + sp by omega] at h8; exact ⟨h8.1, by omega, by omega⟩), rfl, rfl⟩))
  · refine x_topN (n := 119) (congrArg nI e_2) ?_
    refine lv_lookup (tgt := 235) hx hb dX6_readCommand_29 (by decide) rfl (by decide) ?_
    rw [e_2] at hl
    have hid : idxC (lt sp) ≠ 0 := by rw [e_2]; decide
    have hg : dgN (lt sp) = 1 := by rw [e_2]; rfl
    refine lv_aload_n hx hb dX6_readCommand_235 rfl (lv_at hl 4 rfl) ?_
    refine lv_iconst (v := (nI 0)) hx hb dX6_readCommand_236 (by decide) ?_
    refine lv_iconst (v := (nI 5)) hx hb dX6_readCommand_237 (by decide) ?_
    refine x_cVI (As := [.int (nI 0), .int (nI 5)]) (k_X6_figure l G Y mo rf tx sz nw tr dy ac kp ik td ch (1 + sp) ou lt 0 5 (by omega) (by omega) (by omega) (by omega) (by omega)) cw_X6_109 [0, 1] 0 0 M hK hZ hw hl.1 rfl (by decide) rfl rfl rfl ⟨by decide, by decide⟩ ⟨Nat.zero_le _, Nat.zero_le _⟩ rfl rfl (Nat.le_of_ble_eq_true rfl) dX6_readCommand_238 (fun r sg h_101 H locs hw => ?_)
    rcases h_101 with ⟨fc102, rfl, rfl⟩ | ⟨fc103, rfl, rfl⟩
    · have hw : xW G A s.heap [[(mo, .inr (5, [.int (nI rf), .ref tx, .int (nI sz), .ref nw, .ref tr, .ref dy, .int (nI ac), .ref kp, .ref ik, .ref td, .ref ch, .int (nI (1 + (1 + sp))), .int (nI ou)]))], [(tx, .inl (Y 0, 120, .inl (rowF lt)))], [(a, .inl (Y 0, 140, .inl (rowF ρ)))]] H locs := hw
      rw [show (1 + (1 + sp)) = 2 + sp by omega] at hw
      obtain ⟨_, _, _⟩ := id fc102
      refine lv_istore_n (lv' := [(3, .int (nI (lt (1 + sp) - 48))), (5, .int (nI 0)), (4, .int (nI 0)), (2, .int (nI 119)), (0, .ref mo), (1, .ref a)]) hx hb dX6_readCommand_241 rfl hl (by decide) rfl (fun ls hl => ?_)
      refine lv_goto (tgt := 260) hx hb dX6_readCommand_242 (by decide) ?_
      refine lv_iload_n hx hb dX6_readCommand_260 rfl (lv_at hl 0 rfl) ?_
      refine lv_iconst (v := (mw 0)) hx hb dX6_readCommand_261 (by decide) ?_
      refine lv_icmp_eq (tgt := 277) hx hb dX6_readCommand_262 (by decide) (fun c_104 => absurd c_104 (nI_m1 (by omega))) (fun c_104 => ?_)
      refine lv_iload hx hb dX6_readCommand_265 (lv_at hl 2 rfl) ?_
      refine lv_iconst (v := (mw 0)) hx hb dX6_readCommand_267 (by decide) ?_
      refine lv_icmp_eq (tgt := 277) hx hb dX6_readCommand_268 (by decide) (fun c_105 => absurd c_105 (nI_m1 (by omega))) (fun c_105 => ?_)
      refine lv_iload hx hb dX6_readCommand_271 (lv_at hl 1 rfl) ?_
      refine lv_iconst (v := (mw 0)) hx hb dX6_readCommand_273 (by decide) ?_
      refine lv_icmp_ne (tgt := 279) hx hb dX6_readCommand_274 (by decide) (fun c_106 => ?_) (fun c_106 => absurd c_106 (nI_m1 (by omega)))
      refine lv_aload_n hx hb dX6_readCommand_279 rfl (lv_at hl 4 rfl) ?_
      refine lv_dup hx hb dX6_readCommand_280 rfl ?_
      refine x_get M hK hw 0 0 rfl rfl ff_X6_140 rfl dX6_readCommand_281 ?_
      refine lv_aload_n hx hb dX6_readCommand_284 rfl (lv_at hl 5 rfl) ?_
      refine lv_iload_n hx hb dX6_readCommand_285 rfl (lv_at hl 3 rfl) ?_
      refine lv_iload_n hx hb dX6_readCommand_286 rfl (lv_at hl 0 rfl) ?_
      refine lv_iload hx hb dX6_readCommand_287 (lv_at hl 2 rfl) ?_
      refine lv_iload hx hb dX6_readCommand_289 (lv_at hl 1 rfl) ?_
      refine x_cSI (As := [.ref a, .int (nI 119), .int (nI (lt (1 + sp) - 48)), .int (nI 0), .int (nI 0)]) (k_X6_does_w l G Y a (lt (1 + sp) - 48) 0 0 ρ (hI) (by omega)) cw_X6_143 [2] M hK hZ hw hl.1 rfl (by decide) ⟨by decide, by decide⟩ ⟨Nat.zero_le _, Nat.zero_le _⟩ rfl rfl (Nat.le_of_ble_eq_true rfl) dX6_readCommand_291 (fun r sg h_107 H locs hw => ?_)
      obtain ⟨rfl, rfl⟩ := h_107
      have hw : xW G A s.heap [[(mo, .inr (5, [.int (nI rf), .ref tx, .int (nI sz), .ref nw, .ref tr, .ref dy, .int (nI ac), .ref kp, .ref ik, .ref td, .ref ch, .int (nI (2 + sp)), .int (nI ou)]))], [(tx, .inl (Y 0, 120, .inl (rowF lt)))], [(a, .inl (Y 0, 140, .inl (rowF (dBid ρ (lt (1 + sp) - 48)))))]] H locs := hw
      refine x_beq M (tgt := 301) dX6_readCommand_294 (by decide) (fun c_108 => ?_) (fun c_108 => ?_)
      · refine lv_iconst (v := (nI 1)) hx hb dX6_readCommand_301 (by decide) ?_
        refine x_iadd M (n := 1 + ou) dX6_readCommand_302 (by omega) ?_
        refine x_put M hK hw 0 0 rfl rfl fp_X6_140 rfl rfl (Nat.le_of_ble_eq_true rfl) dX6_readCommand_303 (fun H locs hw => ?_)
        have hw : xW G A s.heap [[(mo, .inr (5, [.int (nI rf), .ref tx, .int (nI sz), .ref nw, .ref tr, .ref dy, .int (nI ac), .ref kp, .ref ik, .ref td, .ref ch, .int (nI (2 + sp)), .int (nI (1 + ou))]))], [(tx, .inl (Y 0, 120, .inl (rowF lt)))], [(a, .inl (Y 0, 140, .inl (rowF (dBid ρ (lt (1 + sp) - 48)))))]] H locs := hw
        refine lv_iconst (v := (nI 1)) hx hb dX6_readCommand_306 (by decide) ?_
        have hR : cmR ρ lt sp = dBid ρ (lt (1 + sp) - 48) := by clear hret hw hl M hK hZ hx hb; unfold cmR; rw [if_neg (by omega), if_neg (by omega), if_neg (by omega), if_neg (by omega), if_pos (by omega), show sp + 1 = 1 + sp by omega, numD_1]
        have hT : cmT ρ lt sp = tBid ρ (lt (1 + sp) - 48) := by clear hret hw hl M hK hZ hx hb; unfold cmT; rw [if_neg (by omega), if_neg (by omega), if_neg (by omega), if_neg (by omega), if_pos (by omega), show sp + 1 = 1 + sp by omega, numD_1]
        have hO : ou + cmO ρ lt sp = 1 + ou := by unfold cmO; rw [hT, if_neg (of_decide_eq_false c_108)]; omega
        have hS : sp + 1 + dgN (lt sp) = 2 + sp := by rw [hg]; omega
        exact hret _ _ _ (nI 1) _ _ dX6_readCommand_307 hw rfl rfl (Or.inr (Or.inr ⟨hid, fun q hq => by rcases (show q = 0 by omega) with rfl; exact (okq_119_0 e_2).mpr (by rw [show sp + 1 + 0 = 1 + sp by omega]; exact ⟨by omega, by omega, by omega⟩), rfl, by rw [hR, hO, hS]⟩))
      refine lv_iconst (v := (nI 0)) hx hb dX6_readCommand_297 (by decide) ?_
      refine lv_goto (tgt := 302) hx hb dX6_readCommand_298 (by decide) ?_
      refine x_iadd M (n := ou) dX6_readCommand_302 (by omega) ?_
      refine x_put M hK hw 0 0 rfl rfl fp_X6_140 rfl rfl (Nat.le_of_ble_eq_true rfl) dX6_readCommand_303 (fun H locs hw => ?_)
      have hw : xW G A s.heap [[(mo, .inr (5, [.int (nI rf), .ref tx, .int (nI sz), .ref nw, .ref tr, .ref dy, .int (nI ac), .ref kp, .ref ik, .ref td, .ref ch, .int (nI (2 + sp)), .int (nI ou)]))], [(tx, .inl (Y 0, 120, .inl (rowF lt)))], [(a, .inl (Y 0, 140, .inl (rowF (dBid ρ (lt (1 + sp) - 48)))))]] H locs := hw
      refine lv_iconst (v := (nI 1)) hx hb dX6_readCommand_306 (by decide) ?_
      have hR : cmR ρ lt sp = dBid ρ (lt (1 + sp) - 48) := by clear hret hw hl M hK hZ hx hb; unfold cmR; rw [if_neg (by omega), if_neg (by omega), if_neg (by omega), if_neg (by omega), if_pos (by omega), show sp + 1 = 1 + sp by omega, numD_1]
      have hT : cmT ρ lt sp = tBid ρ (lt (1 + sp) - 48) := by clear hret hw hl M hK hZ hx hb; unfold cmT; rw [if_neg (by omega), if_neg (by omega), if_neg (by omega), if_neg (by omega), if_pos (by omega), show sp + 1 = 1 + sp by omega, numD_1]
      have hO : ou + cmO ρ lt sp = ou := by unfold cmO; rw [hT, if_pos (of_decide_eq_true c_108)]; rfl
      have hS : sp + 1 + dgN (lt sp) = 2 + sp := by rw [hg]; omega
      exact hret _ _ _ (nI 1) _ _ dX6_readCommand_307 hw rfl rfl (Or.inr (Or.inr ⟨hid, fun q hq => by rcases (show q = 0 by omega) with rfl; exact (okq_119_0 e_2).mpr (by rw [show sp + 1 + 0 = 1 + sp by omega]; exact ⟨by omega, by omega, by omega⟩), rfl, by rw [hR, hO, hS]⟩))
    · have hw : xW G A s.heap [[(mo, .inr (5, [.int (nI rf), .ref tx, .int (nI sz), .ref nw, .ref tr, .ref dy, .int (nI ac), .ref kp, .ref ik, .ref td, .ref ch, .int (nI (1 + sp)), .int (nI ou)]))], [(tx, .inl (Y 0, 120, .inl (rowF lt)))], [(a, .inl (Y 0, 140, .inl (rowF ρ)))]] H locs := hw
      rw [show (1 + sp) = 1 + sp by omega] at hw
      refine lv_istore_n (lv' := [(3, .int (mw 0)), (5, .int (nI 0)), (4, .int (nI 0)), (2, .int (nI 119)), (0, .ref mo), (1, .ref a)]) hx hb dX6_readCommand_241 rfl hl (by decide) rfl (fun ls hl => ?_)
      refine lv_goto (tgt := 260) hx hb dX6_readCommand_242 (by decide) ?_
      refine lv_iload_n hx hb dX6_readCommand_260 rfl (lv_at hl 0 rfl) ?_
      refine lv_iconst (v := (mw 0)) hx hb dX6_readCommand_261 (by decide) ?_
      refine lv_icmp_eq (tgt := 277) hx hb dX6_readCommand_262 (by decide) (fun c_109 => ?_) (fun c_109 => absurd c_109 (fun z => z rfl))
      refine lv_iconst (v := (nI 0)) hx hb dX6_readCommand_277 (by decide) ?_
      rw [show (1 + sp : Nat) = sp + 1 + 0 by omega] at hw
      exact hret _ _ _ (nI 0) _ _ dX6_readCommand_278 hw rfl rfl (Or.inr (Or.inl ⟨hid, 0, by omega, fun q hq => absurd hq (Nat.not_lt_zero _), fun z => fc103 (by have h8 := (okq_119_0 e_2).mp z; rw [show sp + 1 + 0 = 1 + sp by omega] at h8; exact ⟨h8.1, by omega, by omega⟩), rfl, rfl⟩))
  · refine x_topN (n := 99) (congrArg nI e_2) ?_
    refine lv_lookup (tgt := 245) hx hb dX6_readCommand_29 (by decide) rfl (by decide) ?_
    rw [e_2] at hl
    have hid : idxC (lt sp) ≠ 0 := by rw [e_2]; decide
    have hg : dgN (lt sp) = 0 := by rw [e_2]; rfl
    refine lv_goto (tgt := 260) hx hb dX6_readCommand_245 (by decide) ?_
    refine lv_iload_n hx hb dX6_readCommand_260 rfl (lv_at hl 2 rfl) ?_
    refine lv_iconst (v := (mw 0)) hx hb dX6_readCommand_261 (by decide) ?_
    refine lv_icmp_eq (tgt := 277) hx hb dX6_readCommand_262 (by decide) (fun c_110 => absurd c_110 (nI_m1 (by omega))) (fun c_110 => ?_)
    refine lv_iload hx hb dX6_readCommand_265 (lv_at hl 1 rfl) ?_
    refine lv_iconst (v := (mw 0)) hx hb dX6_readCommand_267 (by decide) ?_
    refine lv_icmp_eq (tgt := 277) hx hb dX6_readCommand_268 (by decide) (fun c_111 => absurd c_111 (nI_m1 (by omega))) (fun c_111 => ?_)
    refine lv_iload hx hb dX6_readCommand_271 (lv_at hl 0 rfl) ?_
    refine lv_iconst (v := (mw 0)) hx hb dX6_readCommand_273 (by decide) ?_
    refine lv_icmp_ne (tgt := 279) hx hb dX6_readCommand_274 (by decide) (fun c_112 => ?_) (fun c_112 => absurd c_112 (nI_m1 (by omega)))
    refine lv_aload_n hx hb dX6_readCommand_279 rfl (lv_at hl 4 rfl) ?_
    refine lv_dup hx hb dX6_readCommand_280 rfl ?_
    refine x_get M hK hw 0 0 rfl rfl ff_X6_140 rfl dX6_readCommand_281 ?_
    refine lv_aload_n hx hb dX6_readCommand_284 rfl (lv_at hl 5 rfl) ?_
    refine lv_iload_n hx hb dX6_readCommand_285 rfl (lv_at hl 3 rfl) ?_
    refine lv_iload_n hx hb dX6_readCommand_286 rfl (lv_at hl 2 rfl) ?_
    refine lv_iload hx hb dX6_readCommand_287 (lv_at hl 1 rfl) ?_
    refine lv_iload hx hb dX6_readCommand_289 (lv_at hl 0 rfl) ?_
    refine x_cSI (As := [.ref a, .int (nI 99), .int (nI 0), .int (nI 0), .int (nI 0)]) (k_X6_does_c l G Y a 0 0 0 ρ (hI)) cw_X6_143 [2] M hK hZ hw hl.1 rfl (by decide) ⟨by decide, by decide⟩ ⟨Nat.zero_le _, Nat.zero_le _⟩ rfl rfl (Nat.le_of_ble_eq_true rfl) dX6_readCommand_291 (fun r sg h_113 H locs hw => ?_)
    obtain ⟨rfl, rfl⟩ := h_113
    have hw : xW G A s.heap [[(mo, .inr (5, [.int (nI rf), .ref tx, .int (nI sz), .ref nw, .ref tr, .ref dy, .int (nI ac), .ref kp, .ref ik, .ref td, .ref ch, .int (nI (1 + sp)), .int (nI ou)]))], [(tx, .inl (Y 0, 120, .inl (rowF lt)))], [(a, .inl (Y 0, 140, .inl (rowF (dClose ρ))))]] H locs := hw
    refine x_beq M (tgt := 301) dX6_readCommand_294 (by decide) (fun c_114 => ?_) (fun c_114 => ?_)
    · refine lv_iconst (v := (nI 1)) hx hb dX6_readCommand_301 (by decide) ?_
      refine x_iadd M (n := 1 + ou) dX6_readCommand_302 (by omega) ?_
      refine x_put M hK hw 0 0 rfl rfl fp_X6_140 rfl rfl (Nat.le_of_ble_eq_true rfl) dX6_readCommand_303 (fun H locs hw => ?_)
      have hw : xW G A s.heap [[(mo, .inr (5, [.int (nI rf), .ref tx, .int (nI sz), .ref nw, .ref tr, .ref dy, .int (nI ac), .ref kp, .ref ik, .ref td, .ref ch, .int (nI (1 + sp)), .int (nI (1 + ou))]))], [(tx, .inl (Y 0, 120, .inl (rowF lt)))], [(a, .inl (Y 0, 140, .inl (rowF (dClose ρ))))]] H locs := hw
      refine lv_iconst (v := (nI 1)) hx hb dX6_readCommand_306 (by decide) ?_
      have hR : cmR ρ lt sp = dClose ρ := by clear hret hw hl M hK hZ hx hb; unfold cmR; rw [if_neg (by omega), if_neg (by omega), if_neg (by omega), if_neg (by omega), if_neg (by omega)]
      have hT : cmT ρ lt sp = whyClose ρ := by clear hret hw hl M hK hZ hx hb; unfold cmT; rw [if_neg (by omega), if_neg (by omega), if_neg (by omega), if_neg (by omega), if_neg (by omega)]
      have hO : ou + cmO ρ lt sp = 1 + ou := by unfold cmO; rw [hT, if_neg (of_decide_eq_false c_114)]; omega
      have hS : sp + 1 + dgN (lt sp) = 1 + sp := by rw [hg]; omega
      exact hret _ _ _ (nI 1) _ _ dX6_readCommand_307 hw rfl rfl (Or.inr (Or.inr ⟨hid, fun q hq => by omega, rfl, by rw [hR, hO, hS]⟩))
    refine lv_iconst (v := (nI 0)) hx hb dX6_readCommand_297 (by decide) ?_
    refine lv_goto (tgt := 302) hx hb dX6_readCommand_298 (by decide) ?_
    refine x_iadd M (n := ou) dX6_readCommand_302 (by omega) ?_
    refine x_put M hK hw 0 0 rfl rfl fp_X6_140 rfl rfl (Nat.le_of_ble_eq_true rfl) dX6_readCommand_303 (fun H locs hw => ?_)
    have hw : xW G A s.heap [[(mo, .inr (5, [.int (nI rf), .ref tx, .int (nI sz), .ref nw, .ref tr, .ref dy, .int (nI ac), .ref kp, .ref ik, .ref td, .ref ch, .int (nI (1 + sp)), .int (nI ou)]))], [(tx, .inl (Y 0, 120, .inl (rowF lt)))], [(a, .inl (Y 0, 140, .inl (rowF (dClose ρ))))]] H locs := hw
    refine lv_iconst (v := (nI 1)) hx hb dX6_readCommand_306 (by decide) ?_
    have hR : cmR ρ lt sp = dClose ρ := by clear hret hw hl M hK hZ hx hb; unfold cmR; rw [if_neg (by omega), if_neg (by omega), if_neg (by omega), if_neg (by omega), if_neg (by omega)]
    have hT : cmT ρ lt sp = whyClose ρ := by clear hret hw hl M hK hZ hx hb; unfold cmT; rw [if_neg (by omega), if_neg (by omega), if_neg (by omega), if_neg (by omega), if_neg (by omega)]
    have hO : ou + cmO ρ lt sp = ou := by unfold cmO; rw [hT, if_pos (of_decide_eq_true c_114)]; rfl
    have hS : sp + 1 + dgN (lt sp) = 1 + sp := by rw [hg]; omega
    exact hret _ _ _ (nI 1) _ _ dX6_readCommand_307 hw rfl rfl (Or.inr (Or.inr ⟨hid, fun q hq => by omega, rfl, by rw [hR, hO, hS]⟩))
  · have hid : idxC (lt sp) = 0 := by unfold idxC; rw [if_neg e_2.1, if_neg e_2.2.1, if_neg e_2.2.2.1, if_neg e_2.2.2.2.1, if_neg e_2.2.2.2.2.1, if_neg e_2.2.2.2.2.2]
    refine lv_lookup (tgt := 248) hx hb dX6_readCommand_29 (by decide) ((lv_osw (k := nI 98) (fun z => absurd (nI_injN z (by omega) (by decide)) (by omega)) rfl).trans ((lv_osw (k := nI 99) (fun z => absurd (nI_injN z (by omega) (by decide)) (by omega)) rfl).trans ((lv_osw (k := nI 113) (fun z => absurd (nI_injN z (by omega) (by decide)) (by omega)) rfl).trans ((lv_osw (k := nI 115) (fun z => absurd (nI_injN z (by omega) (by decide)) (by omega)) rfl).trans ((lv_osw (k := nI 118) (fun z => absurd (nI_injN z (by omega) (by decide)) (by omega)) rfl).trans ((lv_osw (k := nI 119) (fun z => absurd (nI_injN z (by omega) (by decide)) (by omega)) rfl).trans rfl)))))) rfl ?_
    refine lv_aload_n hx hb dX6_readCommand_248 rfl (lv_at hl 4 rfl) ?_
    refine lv_dup hx hb dX6_readCommand_249 rfl ?_
    refine x_get M hK hw 0 0 rfl rfl ff_X6_106 rfl dX6_readCommand_250 ?_
    refine lv_iconst (v := (nI 1)) hx hb dX6_readCommand_253 (by decide) ?_
    refine x_isub M (n := sp) dX6_readCommand_254 (by omega) ?_
    refine x_put M hK hw 0 0 rfl rfl fp_X6_106 rfl rfl (Nat.le_of_ble_eq_true rfl) dX6_readCommand_255 (fun H locs hw => ?_)
    have hw : xW G A s.heap [[(mo, .inr (5, [.int (nI rf), .ref tx, .int (nI sz), .ref nw, .ref tr, .ref dy, .int (nI ac), .ref kp, .ref ik, .ref td, .ref ch, .int (nI sp), .int (nI ou)]))], [(tx, .inl (Y 0, 120, .inl (rowF lt)))], [(a, .inl (Y 0, 140, .inl (rowF ρ)))]] H locs := hw
    refine lv_iconst (v := (nI 0)) hx hb dX6_readCommand_258 (by decide) ?_
    exact hret _ _ _ (nI 0) _ _ dX6_readCommand_259 hw rfl rfl (Or.inl ⟨hid, rfl, rfl⟩)
set_option maxHeartbeats 4000000 in
set_option maxRecDepth 20000 in
theorem k_X6_readText (l : Launch) (G : va_G) (Y : Nat → Nat) (mo rf tx sz nw tr dy ac kp ik td ch sp ou : Nat) (lt : Nat → Nat) (a : Nat) (φ : Nat → Nat) (hn : sz ≤ 120) (hlt : ∀ i, i < 120 → lt i < 256) : CtI l yX6_readText cX6_readText 2 .int 6 137 [.ref mo, .ref a] [[(mo, .inr (5, [.int (nI rf), .ref tx, .int (nI sz), .ref nw, .ref tr, .ref dy, .int (nI ac), .ref kp, .ref ik, .ref td, .ref ch, .int (nI sp), .int (nI ou)]))], [(tx, .inl (Y 0, 120, .inl (rowF lt)))], [(a, .inl (Y 0, 140, .inl (rowF φ)))]] (fun r sg => r = mw (errP lt sz) ∧ ∃ (sp' ou' : Nat) (σ : Nat → Nat), (errP lt sz = 0 → σ = (tR lt sz 1 row0 0).1 ∧ ou' = (tR lt sz 1 row0 0).2) ∧ sg = [[(mo, .inr (5, [.int (nI rf), .ref tx, .int (nI sz), .ref nw, .ref tr, .ref dy, .int (nI ac), .ref kp, .ref ik, .ref td, .ref ch, .int (nI sp'), .int (nI ou')]))], [(tx, .inl (Y 0, 120, .inl (rowF lt)))], [(a, .inl (Y 0, 140, .inl (rowF σ)))]]) G Y := by
  refine x_ofI (by decide) (Nat.le_of_ble_eq_true rfl) (fun p e s m args below meth c A ls Q M hK hZ hw hl hret => ?_)
  obtain ⟨hx, hb, -⟩ := id M
  have hl : lv_has ls 2 [(0, .ref mo), (1, .ref a)] := hl
  refine lv_aload_n hx hb dX6_readText_0 rfl (lv_at hl 1 rfl) ?_
  refine x_cSV (As := [.ref a]) (k_X6_begin l G Y a φ) cw_X6_35 [2] M hK hZ hw hl.1 rfl (by decide) ⟨by decide, by decide⟩ ⟨Nat.zero_le _, Nat.zero_le _⟩ rfl rfl (Nat.le_of_ble_eq_true rfl) dX6_readText_1 (fun sg h_1 H locs hw => ?_)
  obtain rfl := h_1
  have hw : xW G A s.heap [[(mo, .inr (5, [.int (nI rf), .ref tx, .int (nI sz), .ref nw, .ref tr, .ref dy, .int (nI ac), .ref kp, .ref ik, .ref td, .ref ch, .int (nI sp), .int (nI ou)]))], [(tx, .inl (Y 0, 120, .inl (rowF lt)))], [(a, .inl (Y 0, 140, .inl (rowF row0)))]] H locs := hw
  refine lv_aload_n hx hb dX6_readText_4 rfl (lv_at hl 0 rfl) ?_
  refine lv_iconst (v := (nI 0)) hx hb dX6_readText_5 (by decide) ?_
  refine x_put M hK hw 0 0 rfl rfl fp_X6_140 rfl rfl (Nat.le_of_ble_eq_true rfl) dX6_readText_6 (fun H locs hw => ?_)
  have hw : xW G A s.heap [[(mo, .inr (5, [.int (nI rf), .ref tx, .int (nI sz), .ref nw, .ref tr, .ref dy, .int (nI ac), .ref kp, .ref ik, .ref td, .ref ch, .int (nI sp), .int (nI 0)]))], [(tx, .inl (Y 0, 120, .inl (rowF lt)))], [(a, .inl (Y 0, 140, .inl (rowF row0)))]] H locs := hw
  refine lv_aload_n hx hb dX6_readText_9 rfl (lv_at hl 0 rfl) ?_
  refine lv_iconst (v := (nI 0)) hx hb dX6_readText_10 (by decide) ?_
  refine x_put M hK hw 0 0 rfl rfl fp_X6_106 rfl rfl (Nat.le_of_ble_eq_true rfl) dX6_readText_11 (fun H locs hw => ?_)
  have hw : xW G A s.heap [[(mo, .inr (5, [.int (nI rf), .ref tx, .int (nI sz), .ref nw, .ref tr, .ref dy, .int (nI ac), .ref kp, .ref ik, .ref td, .ref ch, .int (nI 0), .int (nI 0)]))], [(tx, .inl (Y 0, 120, .inl (rowF lt)))], [(a, .inl (Y 0, 140, .inl (rowF row0)))]] H locs := hw
  refine lv_aload_n hx hb dX6_readText_14 rfl (lv_at hl 0 rfl) ?_
  refine x_get M hK hw 0 0 rfl rfl ff_X6_100 rfl dX6_readText_15 ?_
  refine x_zeq M (tgt := 32) (by omega) dX6_readText_18 (by decide) (fun c_2 => ?_) (fun c_2 => ?_)
  · refine lv_iconst (v := (nI 0)) hx hb dX6_readText_32 (by decide) ?_
    have herr : errP lt sz = 1 := by unfold errP; rw [if_pos (Or.inl (by omega))]
    exact hret _ _ _ (nI 0) _ _ dX6_readText_33 hw rfl rfl ⟨by rw [herr]; rfl, _, _, _, fun z => by rw [herr] at z; exact absurd z (by decide), rfl⟩
  refine lv_aload_n hx hb dX6_readText_21 rfl (lv_at hl 0 rfl) ?_
  refine x_get M hK hw 0 0 rfl rfl ff_X6_7 rfl dX6_readText_22 ?_
  refine lv_iconst (v := (nI 0)) hx hb dX6_readText_25 (by decide) ?_
  refine x_iald M hK hw 1 0 rfl rfl (by decide) (by decide) dX6_readText_26 ?_
  refine x_topN (n := lt 0) rfl ?_
  have q_3 : lt 0 < 256 := hlt 0 (by omega)
  refine lv_bipush (v := (nI 76)) hx hb dX6_readText_27 (by decide) ?_
  refine x_ceq M (tgt := 34) (by omega) (by decide) dX6_readText_29 (by decide) (fun c_4 => ?_) (fun c_4 => ?_)
  · have herr : errP lt sz = tE lt sz 1 := by unfold errP; rw [if_neg (by omega)]
    refine lv_aload_n hx hb dX6_readText_34 rfl (lv_at hl 0 rfl) ?_
    refine lv_iconst (v := (nI 1)) hx hb dX6_readText_35 (by decide) ?_
    refine x_put M hK hw 0 0 rfl rfl fp_X6_106 rfl rfl (Nat.le_of_ble_eq_true rfl) dX6_readText_36 (fun H locs hw => ?_)
    have hw : xW G A s.heap [[(mo, .inr (5, [.int (nI rf), .ref tx, .int (nI sz), .ref nw, .ref tr, .ref dy, .int (nI ac), .ref kp, .ref ik, .ref td, .ref ch, .int (nI 1), .int (nI 0)]))], [(tx, .inl (Y 0, 120, .inl (rowF lt)))], [(a, .inl (Y 0, 140, .inl (rowF row0)))]] H locs := hw
    have L39 : ∀ (fu : Nat) (at1 : Nat) (o1 : Nat) (σ : Nat → Nat), (1 + sz - at1 < fu) → (1 ≤ at1) → (at1 ≤ sz) → (tE lt sz 1 = tE lt sz at1) → (tR lt sz 1 row0 0 = tR lt sz at1 σ o1) → (Inv σ) → ∀ (H : Heap) (locs : List Loc), xW G A s.heap [[(mo, .inr (5, [.int (nI rf), .ref tx, .int (nI sz), .ref nw, .ref tr, .ref dy, .int (nI ac), .ref kp, .ref ik, .ref td, .ref ch, .int (nI at1), .int (nI o1)]))], [(tx, .inl (Y 0, 120, .inl (rowF lt)))], [(a, .inl (Y 0, 140, .inl (rowF σ)))]] H locs → ∀ (ls : Array Slot), lv_has ls 2 [(0, .ref mo), (1, .ref a)] → W p l e (xRm 6 137) s m args below meth c H locs 0 0 Q (F0 m 39 ls []) := by
      intro fu
      induction fu with
      | zero => intro at1 o1 σ hm; exact absurd hm (Nat.not_lt_zero _)
      | succ fu ih39 =>
        intro at1 o1 σ hm hat hat2 hte htr hIs H locs hw ls hl
        refine lv_aload_n hx hb dX6_readText_39 rfl (lv_at hl 0 rfl) ?_
        refine x_get M hK hw 0 0 rfl rfl ff_X6_106 rfl dX6_readText_40 ?_
        refine lv_aload_n hx hb dX6_readText_43 rfl (lv_at hl 0 rfl) ?_
        refine x_get M hK hw 0 0 rfl rfl ff_X6_100 rfl dX6_readText_44 ?_
        refine x_cge M (tgt := 63) (by omega) (by omega) dX6_readText_47 (by decide) (fun c_5 => ?_) (fun c_5 => ?_)
        · refine lv_iconst (v := (mw 0)) hx hb dX6_readText_63 (by decide) ?_
          have he2 : errP lt sz = 0 := by rw [herr, hte, tE_end (by omega)]
          exact hret _ _ _ (mw 0) _ _ dX6_readText_64 hw rfl rfl ⟨by rw [he2], _, _, _, fun _ => by rw [htr, tR_end (by omega)]; (try exact ⟨rfl, rfl⟩), rfl⟩
        refine lv_aload_n hx hb dX6_readText_50 rfl (lv_at hl 0 rfl) ?_
        refine lv_aload_n hx hb dX6_readText_51 rfl (lv_at hl 1 rfl) ?_
        refine x_cVI (As := [.ref a]) (k_X6_readCommand l G Y mo rf tx sz nw tr dy ac kp ik td ch at1 o1 lt a σ (by omega) (by omega) (hIs) (by omega)) cw_X6_147 [0, 1, 2] 0 0 M hK hZ hw hl.1 rfl (by decide) rfl rfl rfl ⟨by decide, by decide⟩ ⟨Nat.zero_le _, Nat.zero_le _⟩ rfl rfl (Nat.le_of_ble_eq_true rfl) dX6_readText_52 (fun r sg h_6 H locs hw => ?_)
        rcases h_6 with ⟨ha7, rfl, rfl⟩ | ⟨ha8, pb9, hp10, ho11, hb12, rfl, rfl⟩ | ⟨ha13, ho14, rfl, rfl⟩
        · have hw : xW G A s.heap [[(mo, .inr (5, [.int (nI rf), .ref tx, .int (nI sz), .ref nw, .ref tr, .ref dy, .int (nI ac), .ref kp, .ref ik, .ref td, .ref ch, .int (nI at1), .int (nI o1)]))], [(tx, .inl (Y 0, 120, .inl (rowF lt)))], [(a, .inl (Y 0, 140, .inl (rowF σ)))]] H locs := hw
          refine x_zne M (tgt := 39) (by decide) dX6_readText_55 (by decide) (fun c_15 => absurd c_15 (by decide)) (fun c_15 => ?_)
          refine lv_aload_n hx hb dX6_readText_58 rfl (lv_at hl 0 rfl) ?_
          refine x_get M hK hw 0 0 rfl rfl ff_X6_106 rfl dX6_readText_59 ?_
          have he2 : errP lt sz = at1 + 1 := by rw [herr, hte, tE_no (by omega) ha7]
          exact hret _ _ _ (nI at1) _ _ dX6_readText_62 hw rfl rfl ⟨by rw [he2]; exact mw_s.symm, _, _, _, fun z => by omega, rfl⟩
        · have hw : xW G A s.heap [[(mo, .inr (5, [.int (nI rf), .ref tx, .int (nI sz), .ref nw, .ref tr, .ref dy, .int (nI ac), .ref kp, .ref ik, .ref td, .ref ch, .int (nI (at1 + 1 + pb9)), .int (nI o1)]))], [(tx, .inl (Y 0, 120, .inl (rowF lt)))], [(a, .inl (Y 0, 140, .inl (rowF σ)))]] H locs := hw
          refine x_zne M (tgt := 39) (by decide) dX6_readText_55 (by decide) (fun c_16 => absurd c_16 (by decide)) (fun c_16 => ?_)
          refine lv_aload_n hx hb dX6_readText_58 rfl (lv_at hl 0 rfl) ?_
          refine x_get M hK hw 0 0 rfl rfl ff_X6_106 rfl dX6_readText_59 ?_
          have he2 : errP lt sz = (at1 + 1 + pb9) + 1 := by rw [herr, hte, tE_bad (by omega) ha8 hp10 ho11 hb12]
          exact hret _ _ _ (nI (at1 + 1 + pb9)) _ _ dX6_readText_62 hw rfl rfl ⟨by rw [he2]; exact mw_s.symm, _, _, _, fun z => by omega, rfl⟩
        · have hw : xW G A s.heap [[(mo, .inr (5, [.int (nI rf), .ref tx, .int (nI sz), .ref nw, .ref tr, .ref dy, .int (nI ac), .ref kp, .ref ik, .ref td, .ref ch, .int (nI (at1 + 1 + dgN (lt at1))), .int (nI (o1 + cmO σ lt at1))]))], [(tx, .inl (Y 0, 120, .inl (rowF lt)))], [(a, .inl (Y 0, 140, .inl (rowF (cmR σ lt at1))))]] H locs := hw
          refine x_zne M (tgt := 39) (by decide) dX6_readText_55 (by decide) (fun c_17 => ?_) (fun c_17 => absurd c_17 (by decide))
          exact ih39 (at1 + 1 + dgN (lt at1)) (o1 + cmO σ lt at1) (cmR σ lt at1) (by omega) (by omega) (by rcases Nat.eq_zero_or_pos (dgN (lt at1)) with hz0 | hz0; omega; (have := (ho14 (dgN (lt at1) - 1) (by omega)).1; omega)) (by rw [hte, tE_next (by omega) ha13 ho14]) (by rw [htr, tR_next (by omega)]) (Inv_cmR hIs) _ _ hw _ (lv_sub hl [0, 1] rfl)
    exact L39 (1 + sz - 1 + 1) 1 0 row0 (Nat.lt_succ_self _) (by omega) (by omega) (rfl) (rfl) (Inv_0) _ _ hw _ (lv_sub hl [0, 1] rfl)
  refine lv_iconst (v := (nI 0)) hx hb dX6_readText_32 (by decide) ?_
  have herr : errP lt sz = 1 := by unfold errP; rw [if_pos (Or.inr (by omega))]
  exact hret _ _ _ (nI 0) _ _ dX6_readText_33 hw rfl rfl ⟨by rw [herr]; rfl, _, _, _, fun z => by rw [herr] at z; exact absurd z (by decide), rfl⟩
