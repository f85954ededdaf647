set_option maxHeartbeats 4000000 in
set_option maxRecDepth 20000 in
theorem k_X3_takeTurn (l : Launch) (G : va_G) (Y : Nat → Nat) (h r : Nat) (ρ : Nat → Nat) (γ : Nat → Nat → Nat) (hI : Inv ρ) (hr : r < 2 ^ 31) : CtV l yX3_takeTurn cX3_takeTurn 6 5 117 [.ref h, .int (nI r)] [aucW Y h ρ γ] (fun sg => ∃ γ' : Nat → Nat → Nat, sg = [aucW Y h (turnRow ρ r) γ']) G Y := by
  refine x_ofV (by decide) (Nat.le_of_ble_eq_true rfl) (fun p e s m args below meth c A ls Q M hK hZ hw hl hret => ?_)
  obtain ⟨hx, hb, -⟩ := id M
  have hl : lv_has ls 6 [(0, .ref h), (1, .int (nI r))] := hl
  have := hI.n6
  have := hI.over
  have := hI.keep
  have := hI.stepp
  have L15 : ∀ (n : Nat), (n = if ρ 4 = 0 then 1 else ρ 4) → ∀ (H : Heap) (locs : List Loc), xW G A s.heap [aucW Y h ρ γ] H locs → ∀ (ls : Array Slot), lv_has ls 6 [(0, .ref h), (1, .int (nI r))] → W p l e (xRm 5 117) s m args below meth c H locs 0 0 Q (F0 m 15 ls [.int (nI n)]) := by
    intro n hn H locs hw ls hl
    have hn0 : 0 < n := by rw [hn]; split <;> omega
    have hn6 : n ≤ 6 := by rw [hn]; split <;> omega
    refine lv_istore_n (lv' := [(2, .int (nI n)), (0, .ref h), (1, .int (nI r))]) hx hb dX3_takeTurn_15 rfl hl (by decide) rfl (fun ls hl => ?_)
    have htb : r / 16 % n < n := Nat.mod_lt _ hn0
    have htb2 : turnB ρ r < n := by unfold turnB; rw [← hn]; exact htb
    refine lv_iload_n hx hb dX3_takeTurn_16 rfl (lv_at hl 2 rfl) ?_
    refine lv_bipush (v := (nI 16)) hx hb dX3_takeTurn_17 (by decide) ?_
    refine x_idiv M (n := r / 16) dX3_takeTurn_19 (by omega) (by omega) (by decide) rfl ?_
    refine lv_iload_n hx hb dX3_takeTurn_20 rfl (lv_at hl 0 rfl) ?_
    refine x_irem M (n := (r / 16) % n) dX3_takeTurn_21 (by omega) (by omega) (by omega) rfl ?_
    refine x_topN (n := (turnB ρ r)) (congrArg nI (by unfold turnB; rw [← hn])) ?_
    refine lv_istore_n (lv' := [(3, .int (nI (turnB ρ r))), (2, .int (nI n)), (0, .ref h), (1, .int (nI r))]) hx hb dX3_takeTurn_22 rfl hl (by decide) rfl (fun ls hl => ?_)
    refine lv_iload_n hx hb dX3_takeTurn_23 rfl (lv_at hl 3 rfl) ?_
    refine lv_sipush (v := (nI 128)) hx hb dX3_takeTurn_24 (by decide) ?_
    refine x_idiv M (n := r / 128) dX3_takeTurn_27 (by omega) (by omega) (by decide) rfl ?_
    refine lv_iconst (v := (nI 3)) hx hb dX3_takeTurn_28 (by decide) ?_
    refine x_irem M (n := (r / 128) % 3) dX3_takeTurn_29 (by omega) (by omega) (by decide) rfl ?_
    refine lv_istore (lv' := [(4, .int (nI ((r / 128) % 3))), (3, .int (nI (turnB ρ r))), (2, .int (nI n)), (0, .ref h), (1, .int (nI r))]) hx hb dX3_takeTurn_30 hl (by decide) rfl (fun ls hl => ?_)
    refine lv_iload_n hx hb dX3_takeTurn_32 rfl (lv_at hl 4 rfl) ?_
    refine lv_bipush (v := (nI 16)) hx hb dX3_takeTurn_33 (by decide) ?_
    refine x_irem M (n := r % 16) dX3_takeTurn_35 (by omega) (by omega) (by decide) rfl ?_
    refine lv_istore (lv' := [(5, .int (nI (r % 16))), (4, .int (nI ((r / 128) % 3))), (3, .int (nI (turnB ρ r))), (2, .int (nI n)), (0, .ref h), (1, .int (nI r))]) hx hb dX3_takeTurn_36 hl (by decide) rfl (fun ls hl => ?_)
    refine lv_iload hx hb dX3_takeTurn_38 (lv_at hl 0 rfl) ?_
    refine x_zne M (tgt := 67) (by omega) dX3_takeTurn_40 (by decide) (fun c_1 => ?_) (fun c_1 => ?_)
    · refine lv_iload hx hb dX3_takeTurn_67 (lv_at hl 0 rfl) ?_
      refine lv_iconst (v := (nI 3)) hx hb dX3_takeTurn_69 (by decide) ?_
      refine x_cgt M (tgt := 92) (by omega) (by decide) dX3_takeTurn_70 (by decide) (fun c_2 => ?_) (fun c_2 => ?_)
      · refine lv_iload hx hb dX3_takeTurn_92 (lv_at hl 0 rfl) ?_
        refine lv_bipush (v := (nI 6)) hx hb dX3_takeTurn_94 (by decide) ?_
        refine x_cgt M (tgt := 117) (by omega) (by decide) dX3_takeTurn_96 (by decide) (fun c_3 => ?_) (fun c_3 => ?_)
        · refine lv_iload hx hb dX3_takeTurn_117 (lv_at hl 0 rfl) ?_
          refine lv_bipush (v := (nI 10)) hx hb dX3_takeTurn_119 (by decide) ?_
          refine x_cgt M (tgt := 133) (by omega) (by decide) dX3_takeTurn_121 (by decide) (fun c_4 => ?_) (fun c_4 => ?_)
          · refine lv_iload hx hb dX3_takeTurn_133 (lv_at hl 0 rfl) ?_
            refine lv_bipush (v := (nI 13)) hx hb dX3_takeTurn_135 (by decide) ?_
            refine x_cgt M (tgt := 148) (by omega) (by decide) dX3_takeTurn_137 (by decide) (fun c_5 => ?_) (fun c_5 => ?_)
            · refine lv_aload_n hx hb dX3_takeTurn_148 rfl (lv_at hl 4 rfl) ?_
              refine lv_iload_n hx hb dX3_takeTurn_149 rfl (lv_at hl 2 rfl) ?_
              refine lv_iload_n hx hb dX3_takeTurn_150 rfl (lv_at hl 5 rfl) ?_
              refine lv_sipush (v := (nI 512)) hx hb dX3_takeTurn_151 (by decide) ?_
              refine x_idiv M (n := r / 512) dX3_takeTurn_154 (by omega) (by omega) (by decide) rfl ?_
              refine lv_iconst (v := (nI 3)) hx hb dX3_takeTurn_155 (by decide) ?_
              refine x_irem M (n := (r / 512) % 3) dX3_takeTurn_156 (by omega) (by omega) (by decide) rfl ?_
              refine lv_iload_n hx hb dX3_takeTurn_157 rfl (lv_at hl 5 rfl) ?_
              refine lv_sipush (v := (nI 2048)) hx hb dX3_takeTurn_158 (by decide) ?_
              refine x_idiv M (n := r / 2048) dX3_takeTurn_161 (by omega) (by omega) (by decide) rfl ?_
              refine lv_iconst (v := (nI 3)) hx hb dX3_takeTurn_162 (by decide) ?_
              refine x_irem M (n := (r / 2048) % 3) dX3_takeTurn_163 (by omega) (by omega) (by decide) rfl ?_
              refine lv_iload_n hx hb dX3_takeTurn_164 rfl (lv_at hl 5 rfl) ?_
              refine lv_sipush (v := (nI 8192)) hx hb dX3_takeTurn_165 (by decide) ?_
              refine x_idiv M (n := r / 8192) dX3_takeTurn_168 (by omega) (by omega) (by decide) rfl ?_
              refine lv_iconst (v := (nI 3)) hx hb dX3_takeTurn_169 (by decide) ?_
              refine x_irem M (n := (r / 8192) % 3) dX3_takeTurn_170 (by omega) (by omega) (by decide) rfl ?_
              refine lv_iconst (v := (nI 1)) hx hb dX3_takeTurn_171 (by decide) ?_
              refine lv_iload_n hx hb dX3_takeTurn_172 rfl (lv_at hl 5 rfl) ?_
              refine lv_ldc (v := (nI 32768)) hx hb M.2.2.2.1 (M.2.2.2.2 _ mw_413) dX3_takeTurn_173 ?_
              refine x_idiv M (n := r / 32768) dX3_takeTurn_175 (by omega) (by omega) (by decide) rfl ?_
              refine lv_sipush (v := (nI 200)) hx hb dX3_takeTurn_176 (by decide) ?_
              refine x_irem M (n := (r / 32768) % 200) dX3_takeTurn_179 (by omega) (by omega) (by decide) rfl ?_
              refine x_iadd M (n := 1 + ((r / 32768) % 200)) dX3_takeTurn_180 rfl ?_
              refine x_cVI (As := [.int (nI (turnB ρ r)), .int (nI ((r / 512) % 3)), .int (nI ((r / 2048) % 3)), .int (nI ((r / 8192) % 3)), .int (nI (1 + ((r / 32768) % 200)))]) (k_X1_tryAdd l G Y h (turnB ρ r) ((r / 512) % 3) ((r / 2048) % 3) ((r / 8192) % 3) (1 + ((r / 32768) % 200)) ρ γ (hI) (by omega) (by omega) (by omega) (by omega) (by omega)) cw_X3_58 [0] 0 0 M hK hZ hw hl.1 rfl (by decide) rfl rfl rfl ⟨by decide, by decide⟩ ⟨Nat.zero_le _, Nat.zero_le _⟩ rfl rfl (Nat.le_of_ble_eq_true rfl) dX3_takeTurn_181 (fun r sg h_6 H locs hw => ?_)
              obtain ⟨rfl, γa7, rfl⟩ := h_6
              have hw : xW G A s.heap [aucW Y h (dAdd ρ (turnB ρ r) ((r / 512) % 3) ((r / 2048) % 3) ((r / 8192) % 3) (1 + ((r / 32768) % 200))) γa7] H locs := hw
              refine lv_pop hx hb dX3_takeTurn_184 rfl ?_
              have hR : turnRow ρ r = dAdd ρ (turnB ρ r) ((r / 512) % 3) ((r / 2048) % 3) ((r / 8192) % 3) (1 + ((r / 32768) % 200)) := by clear hret hw hl M hK hZ hx hb; unfold turnRow; rw [if_neg (by omega)]; rw [if_neg (by omega)]; rw [if_neg (by omega)]; rw [if_neg (by omega)]; rw [if_neg (by omega)]
              exact hret _ _ _ _ _ dX3_takeTurn_185 hw rfl ⟨γa7, by rw [hR]⟩
            refine lv_aload_n hx hb dX3_takeTurn_140 rfl (lv_at hl 4 rfl) ?_
            refine x_cVI (As := []) (k_X1_tryClose l G Y h ρ γ (hI)) cw_X3_19 [0] 0 0 M hK hZ hw hl.1 rfl (by decide) rfl rfl rfl ⟨by decide, by decide⟩ ⟨Nat.zero_le _, Nat.zero_le _⟩ rfl rfl (Nat.le_of_ble_eq_true rfl) dX3_takeTurn_141 (fun r sg h_8 H locs hw => ?_)
            obtain ⟨rfl, γa9, rfl⟩ := h_8
            have hw : xW G A s.heap [aucW Y h (dClose ρ) γa9] H locs := hw
            refine lv_pop hx hb dX3_takeTurn_144 rfl ?_
            refine lv_goto (tgt := 185) hx hb dX3_takeTurn_145 (by decide) ?_
            have hR : turnRow ρ r = dClose ρ := by clear hret hw hl M hK hZ hx hb; unfold turnRow; rw [if_neg (by omega)]; rw [if_neg (by omega)]; rw [if_neg (by omega)]; rw [if_neg (by omega)]; rw [if_pos (by omega)]
            exact hret _ _ _ _ _ dX3_takeTurn_185 hw rfl ⟨γa9, by rw [hR]⟩
          refine lv_aload_n hx hb dX3_takeTurn_124 rfl (lv_at hl 4 rfl) ?_
          refine lv_iload_n hx hb dX3_takeTurn_125 rfl (lv_at hl 2 rfl) ?_
          refine x_cVI (As := [.int (nI (turnB ρ r))]) (k_X1_tryBid l G Y h (turnB ρ r) ρ γ (hI) (by omega)) cw_X3_15 [0] 0 0 M hK hZ hw hl.1 rfl (by decide) rfl rfl rfl ⟨by decide, by decide⟩ ⟨Nat.zero_le _, Nat.zero_le _⟩ rfl rfl (Nat.le_of_ble_eq_true rfl) dX3_takeTurn_126 (fun r sg h_10 H locs hw => ?_)
          obtain ⟨rfl, γa11, rfl⟩ := h_10
          have hw : xW G A s.heap [aucW Y h (dBid ρ (turnB ρ r)) γa11] H locs := hw
          refine lv_pop hx hb dX3_takeTurn_129 rfl ?_
          refine lv_goto (tgt := 185) hx hb dX3_takeTurn_130 (by decide) ?_
          have hR : turnRow ρ r = dBid ρ (turnB ρ r) := by clear hret hw hl M hK hZ hx hb; unfold turnRow; rw [if_neg (by omega)]; rw [if_neg (by omega)]; rw [if_neg (by omega)]; rw [if_pos (by omega)]
          exact hret _ _ _ _ _ dX3_takeTurn_185 hw rfl ⟨γa11, by rw [hR]⟩
        refine lv_aload_n hx hb dX3_takeTurn_99 rfl (lv_at hl 4 rfl) ?_
        refine lv_iload_n hx hb dX3_takeTurn_100 rfl (lv_at hl 2 rfl) ?_
        refine lv_iload hx hb dX3_takeTurn_101 (lv_at hl 1 rfl) ?_
        refine lv_iload_n hx hb dX3_takeTurn_103 rfl (lv_at hl 5 rfl) ?_
        refine lv_sipush (v := (nI 512)) hx hb dX3_takeTurn_104 (by decide) ?_
        refine x_idiv M (n := r / 512) dX3_takeTurn_107 (by omega) (by omega) (by decide) rfl ?_
        refine lv_iconst (v := (nI 4)) hx hb dX3_takeTurn_108 (by decide) ?_
        refine x_irem M (n := (r / 512) % 4) dX3_takeTurn_109 (by omega) (by omega) (by decide) rfl ?_
        refine x_cVI (As := [.int (nI (turnB ρ r)), .int (nI ((r / 128) % 3)), .int (nI ((r / 512) % 4))]) (k_X1_tryAsk l G Y h (turnB ρ r) ((r / 128) % 3) ((r / 512) % 4) ρ γ (hI) (by omega) (by omega) (by omega)) cw_X3_9 [0] 0 0 M hK hZ hw hl.1 rfl (by decide) rfl rfl rfl ⟨by decide, by decide⟩ ⟨Nat.zero_le _, Nat.zero_le _⟩ rfl rfl (Nat.le_of_ble_eq_true rfl) dX3_takeTurn_110 (fun r sg h_12 H locs hw => ?_)
        obtain ⟨rfl, γa13, rfl⟩ := h_12
        have hw : xW G A s.heap [aucW Y h (dAsk ρ (turnB ρ r) ((r / 128) % 3) ((r / 512) % 4)) γa13] H locs := hw
        refine lv_pop hx hb dX3_takeTurn_113 rfl ?_
        refine lv_goto (tgt := 185) hx hb dX3_takeTurn_114 (by decide) ?_
        have hR : turnRow ρ r = dAsk ρ (turnB ρ r) ((r / 128) % 3) ((r / 512) % 4) := by clear hret hw hl M hK hZ hx hb; unfold turnRow; rw [if_neg (by omega)]; rw [if_neg (by omega)]; rw [if_pos (by omega)]
        exact hret _ _ _ _ _ dX3_takeTurn_185 hw rfl ⟨γa13, by rw [hR]⟩
      refine lv_aload_n hx hb dX3_takeTurn_73 rfl (lv_at hl 4 rfl) ?_
      refine lv_iload_n hx hb dX3_takeTurn_74 rfl (lv_at hl 2 rfl) ?_
      refine lv_iload hx hb dX3_takeTurn_75 (lv_at hl 1 rfl) ?_
      refine lv_iload_n hx hb dX3_takeTurn_77 rfl (lv_at hl 5 rfl) ?_
      refine lv_sipush (v := (nI 512)) hx hb dX3_takeTurn_78 (by decide) ?_
      refine x_idiv M (n := r / 512) dX3_takeTurn_81 (by omega) (by omega) (by decide) rfl ?_
      refine lv_bipush (v := (nI 100)) hx hb dX3_takeTurn_82 (by decide) ?_
      refine x_irem M (n := (r / 512) % 100) dX3_takeTurn_84 (by omega) (by omega) (by decide) rfl ?_
      refine x_cVI (As := [.int (nI (turnB ρ r)), .int (nI ((r / 128) % 3)), .int (nI ((r / 512) % 100))]) (k_X1_tryValue l G Y h (turnB ρ r) ((r / 128) % 3) ((r / 512) % 100) ρ γ (hI) (by omega) (by omega) (by omega)) cw_X3_23 [0] 0 0 M hK hZ hw hl.1 rfl (by decide) rfl rfl rfl ⟨by decide, by decide⟩ ⟨Nat.zero_le _, Nat.zero_le _⟩ rfl rfl (Nat.le_of_ble_eq_true rfl) dX3_takeTurn_85 (fun r sg h_14 H locs hw => ?_)
      obtain ⟨rfl, γa15, rfl⟩ := h_14
      have hw : xW G A s.heap [aucW Y h (dVal ρ (turnB ρ r) ((r / 128) % 3) ((r / 512) % 100)) γa15] H locs := hw
      refine lv_pop hx hb dX3_takeTurn_88 rfl ?_
      refine lv_goto (tgt := 185) hx hb dX3_takeTurn_89 (by decide) ?_
      have hR : turnRow ρ r = dVal ρ (turnB ρ r) ((r / 128) % 3) ((r / 512) % 100) := by clear hret hw hl M hK hZ hx hb; unfold turnRow; rw [if_neg (by omega)]; rw [if_pos (by omega)]
      exact hret _ _ _ _ _ dX3_takeTurn_185 hw rfl ⟨γa15, by rw [hR]⟩
    refine lv_aload_n hx hb dX3_takeTurn_43 rfl (lv_at hl 4 rfl) ?_
    refine lv_iload_n hx hb dX3_takeTurn_44 rfl (lv_at hl 5 rfl) ?_
    refine lv_bipush (v := (nI 16)) hx hb dX3_takeTurn_45 (by decide) ?_
    refine x_idiv M (n := r / 16) dX3_takeTurn_47 (by omega) (by omega) (by decide) rfl ?_
    refine lv_bipush (v := (nI 20)) hx hb dX3_takeTurn_48 (by decide) ?_
    refine x_irem M (n := (r / 16) % 20) dX3_takeTurn_50 (by omega) (by omega) (by decide) rfl ?_
    refine lv_iconst (v := (nI 1)) hx hb dX3_takeTurn_51 (by decide) ?_
    refine lv_iload_n hx hb dX3_takeTurn_52 rfl (lv_at hl 5 rfl) ?_
    refine lv_sipush (v := (nI 512)) hx hb dX3_takeTurn_53 (by decide) ?_
    refine x_idiv M (n := r / 512) dX3_takeTurn_56 (by omega) (by omega) (by decide) rfl ?_
    refine lv_iconst (v := (nI 5)) hx hb dX3_takeTurn_57 (by decide) ?_
    refine x_irem M (n := (r / 512) % 5) dX3_takeTurn_58 (by omega) (by omega) (by decide) rfl ?_
    refine x_iadd M (n := 1 + ((r / 512) % 5)) dX3_takeTurn_59 rfl ?_
    refine x_cVI (As := [.int (nI ((r / 16) % 20)), .int (nI (1 + ((r / 512) % 5)))]) (k_X1_tryJoin l G Y h ((r / 16) % 20) (1 + ((r / 512) % 5)) ρ γ (hI) (by omega) (by omega)) cw_X3_54 [0] 0 0 M hK hZ hw hl.1 rfl (by decide) rfl rfl rfl ⟨by decide, by decide⟩ ⟨Nat.zero_le _, Nat.zero_le _⟩ rfl rfl (Nat.le_of_ble_eq_true rfl) dX3_takeTurn_60 (fun r sg h_16 H locs hw => ?_)
    obtain ⟨rfl, γa17, rfl⟩ := h_16
    have hw : xW G A s.heap [aucW Y h (dJoin ρ ((r / 16) % 20) (1 + ((r / 512) % 5))) γa17] H locs := hw
    refine lv_pop hx hb dX3_takeTurn_63 rfl ?_
    refine lv_goto (tgt := 185) hx hb dX3_takeTurn_64 (by decide) ?_
    have hR : turnRow ρ r = dJoin ρ ((r / 16) % 20) (1 + ((r / 512) % 5)) := by clear hret hw hl M hK hZ hx hb; unfold turnRow; rw [if_pos (by omega)]
    exact hret _ _ _ _ _ dX3_takeTurn_185 hw rfl ⟨γa17, by rw [hR]⟩
  refine lv_aload_n hx hb dX3_takeTurn_0 rfl (lv_at hl 0 rfl) ?_
  refine x_get M hK hw 0 0 rfl rfl ff_X3_50 rfl dX3_takeTurn_1 ?_
  refine x_zle M (tgt := 14) (by omega) dX3_takeTurn_4 (by decide) (fun c_18 => ?_) (fun c_18 => ?_)
  · refine lv_iconst (v := (nI 1)) hx hb dX3_takeTurn_14 (by decide) ?_
    exact L15 1 (by first | rw [if_pos (by omega)] | rw [if_neg (by omega)]) _ _ hw _ (lv_sub hl [0, 1] rfl)
  refine lv_aload_n hx hb dX3_takeTurn_7 rfl (lv_at hl 0 rfl) ?_
  refine x_get M hK hw 0 0 rfl rfl ff_X3_50 rfl dX3_takeTurn_8 ?_
  refine lv_goto (tgt := 15) hx hb dX3_takeTurn_11 (by decide) ?_
  exact L15 (ρ 4) (by first | rw [if_pos (by omega)] | rw [if_neg (by omega)]) _ _ hw _ (lv_sub hl [0, 1] rfl)
set_option maxHeartbeats 4000000 in
set_option maxRecDepth 20000 in
theorem k_X3_succeeds (l : Launch) (G : va_G) (Y : Nat → Nat) (h g : Nat) (ρ : Nat → Nat) (γ : Nat → Nat → Nat) (hI : Inv ρ) (hg : g < 100000) : CtI l yX3_succeeds cX3_succeeds 5 .boolean 5 116 [.ref h, .int (nI g)] [aucW Y h ρ γ] (fun r sg => r = b2i (grpOk ρ g) ∧ ∃ γ' : Nat → Nat → Nat, sg = [aucW Y h (grpRow ρ g) γ']) G Y := by
  refine x_ofI (by decide) (Nat.le_of_ble_eq_true rfl) (fun p e s m args below meth c A ls Q M hK hZ hw hl hret => ?_)
  obtain ⟨hx, hb, -⟩ := id M
  have hl : lv_has ls 5 [(0, .ref h), (1, .int (nI g))] := hl
  have := hI.n6
  have := hI.over
  have := hI.keep
  have := hI.stepp
  have hq3 : g % 1000 = 100 * (g / 100 % 10) + 10 * (g / 10 % 10) + g % 10 := by omega
  have hq4 : g % 10000 = 1000 * (g / 1000 % 10) + g % 1000 := by omega
  refine lv_iload_n hx hb dX3_succeeds_0 rfl (lv_at hl 1 rfl) ?_
  refine lv_sipush (v := (nI 1000)) hx hb dX3_succeeds_1 (by decide) ?_
  refine x_idiv M (n := g / 1000) dX3_succeeds_4 (by omega) (by omega) (by decide) rfl ?_
  refine lv_bipush (v := (nI 10)) hx hb dX3_succeeds_5 (by decide) ?_
  refine x_irem M (n := (g / 1000) % 10) dX3_succeeds_7 (by omega) (by omega) (by decide) rfl ?_
  refine lv_istore_n (lv' := [(2, .int (nI ((g / 1000) % 10))), (0, .ref h), (1, .int (nI g))]) hx hb dX3_succeeds_8 rfl hl (by decide) rfl (fun ls hl => ?_)
  refine lv_iload_n hx hb dX3_succeeds_9 rfl (lv_at hl 2 rfl) ?_
  refine lv_bipush (v := (nI 100)) hx hb dX3_succeeds_10 (by decide) ?_
  refine x_idiv M (n := g / 100) dX3_succeeds_12 (by omega) (by omega) (by decide) rfl ?_
  refine lv_bipush (v := (nI 10)) hx hb dX3_succeeds_13 (by decide) ?_
  refine x_irem M (n := (g / 100) % 10) dX3_succeeds_15 (by omega) (by omega) (by decide) rfl ?_
  refine lv_istore_n (lv' := [(3, .int (nI ((g / 100) % 10))), (2, .int (nI ((g / 1000) % 10))), (0, .ref h), (1, .int (nI g))]) hx hb dX3_succeeds_16 rfl hl (by decide) rfl (fun ls hl => ?_)
  refine lv_iload_n hx hb dX3_succeeds_17 rfl (lv_at hl 3 rfl) ?_
  refine lv_bipush (v := (nI 100)) hx hb dX3_succeeds_18 (by decide) ?_
  refine x_irem M (n := g % 100) dX3_succeeds_20 (by omega) (by omega) (by decide) rfl ?_
  refine x_topN (n := 10 * (g / 10 % 10) + (g % 10)) (congrArg nI (by omega)) ?_
  refine lv_istore (lv' := [(4, .int (nI (10 * (g / 10 % 10) + (g % 10)))), (3, .int (nI ((g / 100) % 10))), (2, .int (nI ((g / 1000) % 10))), (0, .ref h), (1, .int (nI g))]) hx hb dX3_succeeds_21 hl (by decide) rfl (fun ls hl => ?_)
  refine lv_iload_n hx hb dX3_succeeds_23 rfl (lv_at hl 4 rfl) ?_
  refine lv_sipush (v := (nI 10000)) hx hb dX3_succeeds_24 (by decide) ?_
  refine x_idiv M (n := g / 10000) dX3_succeeds_27 (by omega) (by omega) (by decide) rfl ?_
  rcases (show g / 10000 = 0 ∨ g / 10000 = 1 ∨ g / 10000 = 2 ∨ g / 10000 = 3 ∨ g / 10000 = 4 ∨ g / 10000 = 5 ∨ g / 10000 = 6 ∨ g / 10000 = 7 ∨ g / 10000 = 8 ∨ g / 10000 = 9 by omega) with e_1 | e_1 | e_1 | e_1 | e_1 | e_1 | e_1 | e_1 | e_1 | e_1
  · refine x_topN (n := 0) (congrArg nI e_1) ?_
    refine lv_tableOut (tgt := 279) hx hb dX3_succeeds_28 (by decide) (by decide) ?_
    refine lv_iconst (v := (nI 0)) hx hb dX3_succeeds_279 (by decide) ?_
    have hR : grpRow ρ g = ρ := by clear hret hw hl M hK hZ hx hb; unfold grpRow cRow; rw [if_neg (by omega), if_neg (by omega), if_neg (by omega), if_neg (by omega), if_neg (by omega), if_neg (by omega)]
    exact hret _ _ _ (nI 0) _ _ dX3_succeeds_280 hw rfl rfl ⟨b2i_f (by clear hret hw hl M hK hZ hx hb; unfold grpOk cOk; rw [if_neg (by omega), if_neg (by omega), if_neg (by omega), if_neg (by omega), if_neg (by omega), if_neg (by omega), if_neg (by omega), if_neg (by omega), if_neg (by omega)]), γ, by rw [hR]⟩
  · refine x_topN (n := 1) (congrArg nI e_1) ?_
    refine lv_tableIn (tgt := 80) hx hb dX3_succeeds_28 (by decide) (by decide) rfl (by decide) ?_
    refine lv_iload_n hx hb dX3_succeeds_80 rfl (lv_at hl 4 rfl) ?_
    refine lv_bipush (v := (nI 10)) hx hb dX3_succeeds_81 (by decide) ?_
    refine x_irem M (n := g % 10) dX3_succeeds_83 (by omega) (by omega) (by decide) rfl ?_
    refine x_zne M (tgt := 105) (by omega) dX3_succeeds_84 (by decide) (fun c_2 => ?_) (fun c_2 => ?_)
    · refine lv_iconst (v := (nI 0)) hx hb dX3_succeeds_105 (by decide) ?_
      have hR : grpRow ρ g = ρ := by clear hret hw hl M hK hZ hx hb; unfold grpRow cRow; rw [if_pos (by omega)]; rw [if_neg (by first | assumption | omega)]
      exact hret _ _ _ (nI 0) _ _ dX3_succeeds_106 hw rfl rfl ⟨b2i_f (by clear hret hw hl M hK hZ hx hb; unfold grpOk cOk; rw [if_pos (by omega)]; exact decide_eq_false (by omega)), γ, by rw [hR]⟩
    refine lv_aload_n hx hb dX3_succeeds_87 rfl (lv_at hl 3 rfl) ?_
    refine lv_iload_n hx hb dX3_succeeds_88 rfl (lv_at hl 2 rfl) ?_
    refine lv_iload_n hx hb dX3_succeeds_89 rfl (lv_at hl 1 rfl) ?_
    refine lv_iload hx hb dX3_succeeds_90 (lv_at hl 0 rfl) ?_
    refine lv_bipush (v := (nI 10)) hx hb dX3_succeeds_92 (by decide) ?_
    refine x_idiv M (n := (10 * (g / 10 % 10) + (g % 10)) / 10) dX3_succeeds_94 (by omega) (by omega) (by decide) rfl ?_
    refine x_topN (n := (g / 10 % 10)) (congrArg nI (by omega)) ?_
    refine x_cVI (As := [.int (nI ((g / 1000) % 10)), .int (nI ((g / 100) % 10)), .int (nI (g / 10 % 10))]) (k_X1_tryAsk l G Y h ((g / 1000) % 10) ((g / 100) % 10) (g / 10 % 10) ρ γ (hI) (by omega) (by omega) (by omega)) cw_X3_9 [0] 0 0 M hK hZ hw hl.1 rfl (by decide) rfl rfl rfl ⟨by decide, by decide⟩ ⟨Nat.zero_le _, Nat.zero_le _⟩ rfl rfl (Nat.le_of_ble_eq_true rfl) dX3_succeeds_95 (fun r sg h_3 H locs hw => ?_)
    obtain ⟨rfl, γa4, rfl⟩ := h_3
    have hw : xW G A s.heap [aucW Y h (dAsk ρ ((g / 1000) % 10) ((g / 100) % 10) (g / 10 % 10)) γa4] H locs := hw
    refine x_beq M (tgt := 105) dX3_succeeds_98 (by decide) (fun c_5 => ?_) (fun c_5 => ?_)
    · refine lv_iconst (v := (nI 0)) hx hb dX3_succeeds_105 (by decide) ?_
      have hR : grpRow ρ g = dAsk ρ ((g / 1000) % 10) ((g / 100) % 10) (g / 10 % 10) := by clear hret hw hl M hK hZ hx hb; unfold grpRow cRow; rw [if_pos (by omega)]; rw [if_pos (by first | assumption | omega)]
      simp only [decide_eq_true_eq, decide_eq_false_iff_not] at c_5
      exact hret _ _ _ (nI 0) _ _ dX3_succeeds_106 hw rfl rfl ⟨b2i_f (by clear hret hw hl M hK hZ hx hb; unfold grpOk cOk; rw [if_pos (by omega)]; exact decide_eq_false (by omega)), γa4, by rw [hR]⟩
    refine lv_iconst (v := (nI 1)) hx hb dX3_succeeds_101 (by decide) ?_
    refine lv_goto (tgt := 106) hx hb dX3_succeeds_102 (by decide) ?_
    have hR : grpRow ρ g = dAsk ρ ((g / 1000) % 10) ((g / 100) % 10) (g / 10 % 10) := by clear hret hw hl M hK hZ hx hb; unfold grpRow cRow; rw [if_pos (by omega)]; rw [if_pos (by first | assumption | omega)]
    simp only [decide_eq_true_eq, decide_eq_false_iff_not] at c_5
    exact hret _ _ _ (nI 1) _ _ dX3_succeeds_106 hw rfl rfl ⟨b2i_t (by clear hret hw hl M hK hZ hx hb; unfold grpOk cOk; rw [if_pos (by omega)]; exact decide_eq_true (by omega)), γa4, by rw [hR]⟩
  · refine x_topN (n := 2) (congrArg nI e_1) ?_
    refine lv_tableIn (tgt := 107) hx hb dX3_succeeds_28 (by decide) (by decide) rfl (by decide) ?_
    refine lv_iload_n hx hb dX3_succeeds_107 rfl (lv_at hl 4 rfl) ?_
    refine lv_sipush (v := (nI 1000)) hx hb dX3_succeeds_108 (by decide) ?_
    refine x_irem M (n := g % 1000) dX3_succeeds_111 (by omega) (by omega) (by decide) rfl ?_
    refine x_zne M (tgt := 127) (by omega) dX3_succeeds_112 (by decide) (fun c_6 => ?_) (fun c_6 => ?_)
    · refine lv_iconst (v := (nI 0)) hx hb dX3_succeeds_127 (by decide) ?_
      have hR : grpRow ρ g = ρ := by clear hret hw hl M hK hZ hx hb; unfold grpRow cRow; rw [if_neg (by omega), if_pos (by omega)]; rw [if_neg (by first | assumption | omega)]
      exact hret _ _ _ (nI 0) _ _ dX3_succeeds_128 hw rfl rfl ⟨b2i_f (by clear hret hw hl M hK hZ hx hb; unfold grpOk cOk; rw [if_neg (by omega), if_pos (by omega)]; exact decide_eq_false (by omega)), γ, by rw [hR]⟩
    refine lv_aload_n hx hb dX3_succeeds_115 rfl (lv_at hl 3 rfl) ?_
    refine lv_iload_n hx hb dX3_succeeds_116 rfl (lv_at hl 2 rfl) ?_
    refine x_cVI (As := [.int (nI ((g / 1000) % 10))]) (k_X1_tryBid l G Y h ((g / 1000) % 10) ρ γ (hI) (by omega)) cw_X3_15 [0] 0 0 M hK hZ hw hl.1 rfl (by decide) rfl rfl rfl ⟨by decide, by decide⟩ ⟨Nat.zero_le _, Nat.zero_le _⟩ rfl rfl (Nat.le_of_ble_eq_true rfl) dX3_succeeds_117 (fun r sg h_7 H locs hw => ?_)
    obtain ⟨rfl, γa8, rfl⟩ := h_7
    have hw : xW G A s.heap [aucW Y h (dBid ρ ((g / 1000) % 10)) γa8] H locs := hw
    refine x_beq M (tgt := 127) dX3_succeeds_120 (by decide) (fun c_9 => ?_) (fun c_9 => ?_)
    · refine lv_iconst (v := (nI 0)) hx hb dX3_succeeds_127 (by decide) ?_
      have hR : grpRow ρ g = dBid ρ ((g / 1000) % 10) := by clear hret hw hl M hK hZ hx hb; unfold grpRow cRow; rw [if_neg (by omega), if_pos (by omega)]; rw [if_pos (by first | assumption | omega)]
      simp only [decide_eq_true_eq, decide_eq_false_iff_not] at c_9
      exact hret _ _ _ (nI 0) _ _ dX3_succeeds_128 hw rfl rfl ⟨b2i_f (by clear hret hw hl M hK hZ hx hb; unfold grpOk cOk; rw [if_neg (by omega), if_pos (by omega)]; exact decide_eq_false (by omega)), γa8, by rw [hR]⟩
    refine lv_iconst (v := (nI 1)) hx hb dX3_succeeds_123 (by decide) ?_
    refine lv_goto (tgt := 128) hx hb dX3_succeeds_124 (by decide) ?_
    have hR : grpRow ρ g = dBid ρ ((g / 1000) % 10) := by clear hret hw hl M hK hZ hx hb; unfold grpRow cRow; rw [if_neg (by omega), if_pos (by omega)]; rw [if_pos (by first | assumption | omega)]
    simp only [decide_eq_true_eq, decide_eq_false_iff_not] at c_9
    exact hret _ _ _ (nI 1) _ _ dX3_succeeds_128 hw rfl rfl ⟨b2i_t (by clear hret hw hl M hK hZ hx hb; unfold grpOk cOk; rw [if_neg (by omega), if_pos (by omega)]; exact decide_eq_true (by omega)), γa8, by rw [hR]⟩
  · refine x_topN (n := 3) (congrArg nI e_1) ?_
    refine lv_tableIn (tgt := 129) hx hb dX3_succeeds_28 (by decide) (by decide) rfl (by decide) ?_
    refine lv_iload_n hx hb dX3_succeeds_129 rfl (lv_at hl 4 rfl) ?_
    refine lv_sipush (v := (nI 10000)) hx hb dX3_succeeds_130 (by decide) ?_
    refine x_irem M (n := g % 10000) dX3_succeeds_133 (by omega) (by omega) (by decide) rfl ?_
    refine x_zne M (tgt := 148) (by omega) dX3_succeeds_134 (by decide) (fun c_10 => ?_) (fun c_10 => ?_)
    · refine lv_iconst (v := (nI 0)) hx hb dX3_succeeds_148 (by decide) ?_
      have hR : grpRow ρ g = ρ := by clear hret hw hl M hK hZ hx hb; unfold grpRow cRow; rw [if_neg (by omega), if_neg (by omega), if_pos (by omega)]; rw [if_neg (by first | assumption | omega)]
      exact hret _ _ _ (nI 0) _ _ dX3_succeeds_149 hw rfl rfl ⟨b2i_f (by clear hret hw hl M hK hZ hx hb; unfold grpOk cOk; rw [if_neg (by omega), if_neg (by omega), if_pos (by omega)]; exact decide_eq_false (by omega)), γ, by rw [hR]⟩
    refine lv_aload_n hx hb dX3_succeeds_137 rfl (lv_at hl 3 rfl) ?_
    refine x_cVI (As := []) (k_X1_tryClose l G Y h ρ γ (hI)) cw_X3_19 [0] 0 0 M hK hZ hw hl.1 rfl (by decide) rfl rfl rfl ⟨by decide, by decide⟩ ⟨Nat.zero_le _, Nat.zero_le _⟩ rfl rfl (Nat.le_of_ble_eq_true rfl) dX3_succeeds_138 (fun r sg h_11 H locs hw => ?_)
    obtain ⟨rfl, γa12, rfl⟩ := h_11
    have hw : xW G A s.heap [aucW Y h (dClose ρ) γa12] H locs := hw
    refine x_beq M (tgt := 148) dX3_succeeds_141 (by decide) (fun c_13 => ?_) (fun c_13 => ?_)
    · refine lv_iconst (v := (nI 0)) hx hb dX3_succeeds_148 (by decide) ?_
      have hR : grpRow ρ g = dClose ρ := by clear hret hw hl M hK hZ hx hb; unfold grpRow cRow; rw [if_neg (by omega), if_neg (by omega), if_pos (by omega)]; rw [if_pos (by first | assumption | omega)]
      simp only [decide_eq_true_eq, decide_eq_false_iff_not] at c_13
      exact hret _ _ _ (nI 0) _ _ dX3_succeeds_149 hw rfl rfl ⟨b2i_f (by clear hret hw hl M hK hZ hx hb; unfold grpOk cOk; rw [if_neg (by omega), if_neg (by omega), if_pos (by omega)]; exact decide_eq_false (by omega)), γa12, by rw [hR]⟩
    refine lv_iconst (v := (nI 1)) hx hb dX3_succeeds_144 (by decide) ?_
    refine lv_goto (tgt := 149) hx hb dX3_succeeds_145 (by decide) ?_
    have hR : grpRow ρ g = dClose ρ := by clear hret hw hl M hK hZ hx hb; unfold grpRow cRow; rw [if_neg (by omega), if_neg (by omega), if_pos (by omega)]; rw [if_pos (by first | assumption | omega)]
    simp only [decide_eq_true_eq, decide_eq_false_iff_not] at c_13
    exact hret _ _ _ (nI 1) _ _ dX3_succeeds_149 hw rfl rfl ⟨b2i_t (by clear hret hw hl M hK hZ hx hb; unfold grpOk cOk; rw [if_neg (by omega), if_neg (by omega), if_pos (by omega)]; exact decide_eq_true (by omega)), γa12, by rw [hR]⟩
  · refine x_topN (n := 4) (congrArg nI e_1) ?_
    refine lv_tableIn (tgt := 150) hx hb dX3_succeeds_28 (by decide) (by decide) rfl (by decide) ?_
    refine lv_aload_n hx hb dX3_succeeds_150 rfl (lv_at hl 3 rfl) ?_
    refine lv_iload_n hx hb dX3_succeeds_151 rfl (lv_at hl 2 rfl) ?_
    refine lv_iload_n hx hb dX3_succeeds_152 rfl (lv_at hl 1 rfl) ?_
    refine lv_bipush (v := (nI 10)) hx hb dX3_succeeds_153 (by decide) ?_
    refine lv_iload hx hb dX3_succeeds_155 (lv_at hl 0 rfl) ?_
    refine x_imul M (n := 100 * (g / 10 % 10) + 10 * (g % 10)) dX3_succeeds_157 (by omega) ?_
    refine x_topN (n := (10 * (10 * (g / 10 % 10) + g % 10))) (congrArg nI (by omega)) ?_
    refine x_cVI (As := [.int (nI ((g / 1000) % 10)), .int (nI ((g / 100) % 10)), .int (nI (10 * (10 * (g / 10 % 10) + g % 10)))]) (k_X1_tryValue l G Y h ((g / 1000) % 10) ((g / 100) % 10) (10 * (10 * (g / 10 % 10) + g % 10)) ρ γ (hI) (by omega) (by omega) (by omega)) cw_X3_23 [0] 0 0 M hK hZ hw hl.1 rfl (by decide) rfl rfl rfl ⟨by decide, by decide⟩ ⟨Nat.zero_le _, Nat.zero_le _⟩ rfl rfl (Nat.le_of_ble_eq_true rfl) dX3_succeeds_158 (fun r sg h_14 H locs hw => ?_)
    obtain ⟨rfl, γa15, rfl⟩ := h_14
    have hw : xW G A s.heap [aucW Y h (dVal ρ ((g / 1000) % 10) ((g / 100) % 10) (10 * (10 * (g / 10 % 10) + g % 10))) γa15] H locs := hw
    have hR : grpRow ρ g = dVal ρ ((g / 1000) % 10) ((g / 100) % 10) (10 * (10 * (g / 10 % 10) + g % 10)) := by clear hret hw hl M hK hZ hx hb; unfold grpRow cRow; rw [if_neg (by omega), if_neg (by omega), if_neg (by omega), if_pos (by omega)]
    exact hret _ _ _ (b2i (decide (tVal ρ ((g / 1000) % 10) ((g / 100) % 10) (10 * (10 * (g / 10 % 10) + g % 10)) = 0))) _ _ dX3_succeeds_161 hw (b2i_nar _) rfl ⟨congrArg b2i (by clear hret hw hl M hK hZ hx hb; unfold grpOk cOk; rw [if_neg (by omega), if_neg (by omega), if_neg (by omega), if_pos (by omega)]), γa15, by rw [hR]⟩
  · refine x_topN (n := 5) (congrArg nI e_1) ?_
    refine lv_tableIn (tgt := 162) hx hb dX3_succeeds_28 (by decide) (by decide) rfl (by decide) ?_
    refine lv_iload_n hx hb dX3_succeeds_162 rfl (lv_at hl 1 rfl) ?_
    refine x_zne M (tgt := 180) (by omega) dX3_succeeds_163 (by decide) (fun c_16 => ?_) (fun c_16 => ?_)
    · refine lv_iconst (v := (nI 0)) hx hb dX3_succeeds_180 (by decide) ?_
      have hR : grpRow ρ g = ρ := by clear hret hw hl M hK hZ hx hb; unfold grpRow cRow; rw [if_neg (by omega), if_neg (by omega), if_neg (by omega), if_neg (by omega), if_pos (by omega)]; rw [if_neg (by first | assumption | omega)]
      exact hret _ _ _ (nI 0) _ _ dX3_succeeds_181 hw rfl rfl ⟨b2i_f (by clear hret hw hl M hK hZ hx hb; unfold grpOk cOk; rw [if_neg (by omega), if_neg (by omega), if_neg (by omega), if_neg (by omega), if_pos (by omega)]; exact decide_eq_false (by omega)), γ, by rw [hR]⟩
    refine lv_aload_n hx hb dX3_succeeds_166 rfl (lv_at hl 3 rfl) ?_
    refine lv_iload_n hx hb dX3_succeeds_167 rfl (lv_at hl 2 rfl) ?_
    refine lv_iload hx hb dX3_succeeds_168 (lv_at hl 0 rfl) ?_
    refine x_cVI (As := [.int (nI ((g / 1000) % 10)), .int (nI (10 * (g / 10 % 10) + (g % 10)))]) (k_X1_trySet l G Y h ((g / 1000) % 10) (10 * (g / 10 % 10) + (g % 10)) ρ γ (hI) (by omega) (by omega)) cw_X3_26 [0] 0 0 M hK hZ hw hl.1 rfl (by decide) rfl rfl rfl ⟨by decide, by decide⟩ ⟨Nat.zero_le _, Nat.zero_le _⟩ rfl rfl (Nat.le_of_ble_eq_true rfl) dX3_succeeds_170 (fun r sg h_17 H locs hw => ?_)
    obtain ⟨rfl, γa18, rfl⟩ := h_17
    have hw : xW G A s.heap [aucW Y h (dSet ρ ((g / 1000) % 10) (10 * (g / 10 % 10) + (g % 10))) γa18] H locs := hw
    refine x_beq M (tgt := 180) dX3_succeeds_173 (by decide) (fun c_19 => ?_) (fun c_19 => ?_)
    · refine lv_iconst (v := (nI 0)) hx hb dX3_succeeds_180 (by decide) ?_
      have hR : grpRow ρ g = dSet ρ ((g / 1000) % 10) (10 * (g / 10 % 10) + (g % 10)) := by clear hret hw hl M hK hZ hx hb; unfold grpRow cRow; rw [if_neg (by omega), if_neg (by omega), if_neg (by omega), if_neg (by omega), if_pos (by omega)]; rw [if_pos (by first | assumption | omega)]
      simp only [decide_eq_true_eq, decide_eq_false_iff_not] at c_19
      exact hret _ _ _ (nI 0) _ _ dX3_succeeds_181 hw rfl rfl ⟨b2i_f (by clear hret hw hl M hK hZ hx hb; unfold grpOk cOk; rw [if_neg (by omega), if_neg (by omega), if_neg (by omega), if_neg (by omega), if_pos (by omega)]; exact decide_eq_false (by omega)), γa18, by rw [hR]⟩
    refine lv_iconst (v := (nI 1)) hx hb dX3_succeeds_176 (by decide) ?_
    refine lv_goto (tgt := 181) hx hb dX3_succeeds_177 (by decide) ?_
    have hR : grpRow ρ g = dSet ρ ((g / 1000) % 10) (10 * (g / 10 % 10) + (g % 10)) := by clear hret hw hl M hK hZ hx hb; unfold grpRow cRow; rw [if_neg (by omega), if_neg (by omega), if_neg (by omega), if_neg (by omega), if_pos (by omega)]; rw [if_pos (by first | assumption | omega)]
    simp only [decide_eq_true_eq, decide_eq_false_iff_not] at c_19
    exact hret _ _ _ (nI 1) _ _ dX3_succeeds_181 hw rfl rfl ⟨b2i_t (by clear hret hw hl M hK hZ hx hb; unfold grpOk cOk; rw [if_neg (by omega), if_neg (by omega), if_neg (by omega), if_neg (by omega), if_pos (by omega)]; exact decide_eq_true (by omega)), γa18, by rw [hR]⟩
  · refine x_topN (n := 6) (congrArg nI e_1) ?_
    refine lv_tableIn (tgt := 182) hx hb dX3_succeeds_28 (by decide) (by decide) rfl (by decide) ?_
    refine lv_iload hx hb dX3_succeeds_182 (lv_at hl 0 rfl) ?_
    refine x_zne M (tgt := 200) (by omega) dX3_succeeds_184 (by decide) (fun c_20 => ?_) (fun c_20 => ?_)
    · refine lv_iconst (v := (nI 0)) hx hb dX3_succeeds_200 (by decide) ?_
      have hR : grpRow ρ g = ρ := by clear hret hw hl M hK hZ hx hb; unfold grpRow cRow; rw [if_neg (by omega), if_neg (by omega), if_neg (by omega), if_neg (by omega), if_neg (by omega), if_pos (by omega)]; rw [if_neg (by first | assumption | omega)]
      exact hret _ _ _ (nI 0) _ _ dX3_succeeds_201 hw rfl rfl ⟨b2i_f (by clear hret hw hl M hK hZ hx hb; unfold grpOk cOk; rw [if_neg (by omega), if_neg (by omega), if_neg (by omega), if_neg (by omega), if_neg (by omega), if_pos (by omega)]; exact decide_eq_false (by omega)), γ, by rw [hR]⟩
    have hq6 : g / 10 % 10 = 0 := by omega
    have hq7 : g % 10 = 0 := by omega
    have hq8 : (g / 10 % 10) + g % 10 = 0 := by rw [hq6, hq7]
    refine lv_aload_n hx hb dX3_succeeds_187 rfl (lv_at hl 3 rfl) ?_
    refine lv_iload_n hx hb dX3_succeeds_188 rfl (lv_at hl 2 rfl) ?_
    refine lv_iload_n hx hb dX3_succeeds_189 rfl (lv_at hl 1 rfl) ?_
    refine x_cVI (As := [.int (nI ((g / 1000) % 10)), .int (nI ((g / 100) % 10))]) (k_X1_tryDrop l G Y h ((g / 1000) % 10) ((g / 100) % 10) ρ γ (hI) (by omega) (by omega)) cw_X3_30 [0] 0 0 M hK hZ hw hl.1 rfl (by decide) rfl rfl rfl ⟨by decide, by decide⟩ ⟨Nat.zero_le _, Nat.zero_le _⟩ rfl rfl (Nat.le_of_ble_eq_true rfl) dX3_succeeds_190 (fun r sg h_21 H locs hw => ?_)
    obtain ⟨rfl, γa22, rfl⟩ := h_21
    have hw : xW G A s.heap [aucW Y h (dDrop ρ ((g / 1000) % 10) ((g / 100) % 10)) γa22] H locs := hw
    refine x_beq M (tgt := 200) dX3_succeeds_193 (by decide) (fun c_23 => ?_) (fun c_23 => ?_)
    · refine lv_iconst (v := (nI 0)) hx hb dX3_succeeds_200 (by decide) ?_
      have hR : grpRow ρ g = dDrop ρ ((g / 1000) % 10) ((g / 100) % 10) := by clear hret hw hl M hK hZ hx hb; unfold grpRow cRow; rw [if_neg (by omega), if_neg (by omega), if_neg (by omega), if_neg (by omega), if_neg (by omega), if_pos (by omega)]; rw [if_pos (by first | assumption | omega)]
      simp only [decide_eq_true_eq, decide_eq_false_iff_not] at c_23
      exact hret _ _ _ (nI 0) _ _ dX3_succeeds_201 hw rfl rfl ⟨b2i_f (by clear hret hw hl M hK hZ hx hb; unfold grpOk cOk; rw [if_neg (by omega), if_neg (by omega), if_neg (by omega), if_neg (by omega), if_neg (by omega), if_pos (by omega)]; exact decide_eq_false (by omega)), γa22, by rw [hR]⟩
    refine lv_iconst (v := (nI 1)) hx hb dX3_succeeds_196 (by decide) ?_
    refine lv_goto (tgt := 201) hx hb dX3_succeeds_197 (by decide) ?_
    have hR : grpRow ρ g = dDrop ρ ((g / 1000) % 10) ((g / 100) % 10) := by clear hret hw hl M hK hZ hx hb; unfold grpRow cRow; rw [if_neg (by omega), if_neg (by omega), if_neg (by omega), if_neg (by omega), if_neg (by omega), if_pos (by omega)]; rw [if_pos (by first | assumption | omega)]
    simp only [decide_eq_true_eq, decide_eq_false_iff_not] at c_23
    exact hret _ _ _ (nI 1) _ _ dX3_succeeds_201 hw rfl rfl ⟨b2i_t (by clear hret hw hl M hK hZ hx hb; unfold grpOk cOk; rw [if_neg (by omega), if_neg (by omega), if_neg (by omega), if_neg (by omega), if_neg (by omega), if_pos (by omega)]; exact decide_eq_true (by omega)), γa22, by rw [hR]⟩
  · refine x_topN (n := 7) (congrArg nI e_1) ?_
    refine lv_tableIn (tgt := 202) hx hb dX3_succeeds_28 (by decide) (by decide) rfl (by decide) ?_
    refine lv_iload_n hx hb dX3_succeeds_202 rfl (lv_at hl 2 rfl) ?_
    refine x_cNI (As := [.int (nI ((g / 1000) % 10))]) (k_X5_noKind l G Y (nI ((g / 1000) % 10))) cw_X3_33 [] M hK hZ hw hl.1 rfl (by decide) ⟨by decide, by decide⟩ ⟨Nat.zero_le _, Nat.zero_le _⟩ rfl rfl (Nat.le_of_ble_eq_true rfl) dX3_succeeds_203 (fun r sg h_24 H locs hw => ?_)
    obtain ⟨rfl, rfl⟩ := h_24
    have hw : xW G A s.heap [aucW Y h ρ γ] H locs := hw
    refine x_bne M (tgt := 227) dX3_succeeds_206 (by decide) (fun c_25 => ?_) (fun c_25 => ?_)
    · have hz := nzT c_25 (by omega)
      refine lv_iconst (v := (nI 0)) hx hb dX3_succeeds_227 (by decide) ?_
      have hR : grpRow ρ g = ρ := by clear hret hw hl M hK hZ hx hb; unfold grpRow cRow; rw [if_neg (by omega), if_neg (by omega), if_neg (by omega), if_neg (by omega), if_neg (by omega), if_neg (by omega)]
      exact hret _ _ _ (nI 0) _ _ dX3_succeeds_228 hw rfl rfl ⟨b2i_f (by clear hret hw hl M hK hZ hx hb; unfold grpOk cOk; rw [if_neg (by omega), if_neg (by omega), if_neg (by omega), if_neg (by omega), if_neg (by omega), if_neg (by omega), if_pos (by omega)]; exact decide_eq_false (by omega)), γ, by rw [hR]⟩
    have hz := nzF c_25 (by omega)
    refine lv_aload_n hx hb dX3_succeeds_209 rfl (lv_at hl 3 rfl) ?_
    refine x_get M hK hw 0 0 rfl rfl ff_X3_36 rfl dX3_succeeds_210 ?_
    refine lv_iload_n hx hb dX3_succeeds_213 rfl (lv_at hl 2 rfl) ?_
    refine x_iald M hK hw 0 3 rfl rfl (by omega) (by decide) dX3_succeeds_214 ?_
    refine x_topN (n := ρ (11 + ((g / 1000) % 10))) (congrArg (fun q => nI (ρ q)) (by omega)) ?_
    have q_26 : 1 ≤ ρ (11 + ((g / 1000) % 10)) := (hI.pri (k := ((g / 1000) % 10)) (by omega) rfl).1
    have q_27 : ρ (11 + ((g / 1000) % 10)) ≤ 99999 := (hI.pri (k := ((g / 1000) % 10)) (by omega) rfl).2
    refine lv_iload_n hx hb dX3_succeeds_215 rfl (lv_at hl 4 rfl) ?_
    refine lv_sipush (v := (nI 1000)) hx hb dX3_succeeds_216 (by decide) ?_
    refine x_irem M (n := g % 1000) dX3_succeeds_219 (by omega) (by omega) (by decide) rfl ?_
    refine x_clt M (tgt := 227) (by omega) (by omega) dX3_succeeds_220 (by decide) (fun c_28 => ?_) (fun c_28 => ?_)
    · refine lv_iconst (v := (nI 0)) hx hb dX3_succeeds_227 (by decide) ?_
      have hR : grpRow ρ g = ρ := by clear hret hw hl M hK hZ hx hb; unfold grpRow cRow; rw [if_neg (by omega), if_neg (by omega), if_neg (by omega), if_neg (by omega), if_neg (by omega), if_neg (by omega)]
      exact hret _ _ _ (nI 0) _ _ dX3_succeeds_228 hw rfl rfl ⟨b2i_f (by clear hret hw hl M hK hZ hx hb; unfold grpOk cOk; rw [if_neg (by omega), if_neg (by omega), if_neg (by omega), if_neg (by omega), if_neg (by omega), if_neg (by omega), if_pos (by omega)]; exact decide_eq_false (by omega)), γ, by rw [hR]⟩
    refine lv_iconst (v := (nI 1)) hx hb dX3_succeeds_223 (by decide) ?_
    refine lv_goto (tgt := 228) hx hb dX3_succeeds_224 (by decide) ?_
    have hR : grpRow ρ g = ρ := by clear hret hw hl M hK hZ hx hb; unfold grpRow cRow; rw [if_neg (by omega), if_neg (by omega), if_neg (by omega), if_neg (by omega), if_neg (by omega), if_neg (by omega)]
    exact hret _ _ _ (nI 1) _ _ dX3_succeeds_228 hw rfl rfl ⟨b2i_t (by clear hret hw hl M hK hZ hx hb; unfold grpOk cOk; rw [if_neg (by omega), if_neg (by omega), if_neg (by omega), if_neg (by omega), if_neg (by omega), if_neg (by omega), if_pos (by omega)]; exact decide_eq_true (by omega)), γ, by rw [hR]⟩
  · refine x_topN (n := 8) (congrArg nI e_1) ?_
    refine lv_tableIn (tgt := 229) hx hb dX3_succeeds_28 (by decide) (by decide) rfl (by decide) ?_
    refine lv_iload_n hx hb dX3_succeeds_229 rfl (lv_at hl 1 rfl) ?_
    refine x_zne M (tgt := 256) (by omega) dX3_succeeds_230 (by decide) (fun c_29 => ?_) (fun c_29 => ?_)
    · refine lv_iconst (v := (nI 0)) hx hb dX3_succeeds_256 (by decide) ?_
      have hR : grpRow ρ g = ρ := by clear hret hw hl M hK hZ hx hb; unfold grpRow cRow; rw [if_neg (by omega), if_neg (by omega), if_neg (by omega), if_neg (by omega), if_neg (by omega), if_neg (by omega)]
      exact hret _ _ _ (nI 0) _ _ dX3_succeeds_257 hw rfl rfl ⟨b2i_f (by clear hret hw hl M hK hZ hx hb; unfold grpOk cOk; rw [if_neg (by omega), if_neg (by omega), if_neg (by omega), if_neg (by omega), if_neg (by omega), if_neg (by omega), if_neg (by omega), if_pos (by omega)]; exact decide_eq_false (by omega)), γ, by rw [hR]⟩
    refine lv_aload_n hx hb dX3_succeeds_233 rfl (lv_at hl 3 rfl) ?_
    refine lv_iload_n hx hb dX3_succeeds_234 rfl (lv_at hl 2 rfl) ?_
    refine x_cVI (As := [.int (nI ((g / 1000) % 10))]) (k_X1_noBidder l G Y h ρ γ (nI ((g / 1000) % 10)) (hI)) cw_X3_40 [0] 0 0 M hK hZ hw hl.1 rfl (by decide) rfl rfl rfl ⟨by decide, by decide⟩ ⟨Nat.zero_le _, Nat.zero_le _⟩ rfl rfl (Nat.le_of_ble_eq_true rfl) dX3_succeeds_235 (fun r sg h_30 H locs hw => ?_)
    obtain ⟨rfl, rfl⟩ := h_30
    have hw : xW G A s.heap [aucW Y h ρ γ] H locs := hw
    refine x_bne M (tgt := 256) dX3_succeeds_238 (by decide) (fun c_31 => ?_) (fun c_31 => ?_)
    · have hz := nzT c_31 (by omega)
      refine lv_iconst (v := (nI 0)) hx hb dX3_succeeds_256 (by decide) ?_
      have hR : grpRow ρ g = ρ := by clear hret hw hl M hK hZ hx hb; unfold grpRow cRow; rw [if_neg (by omega), if_neg (by omega), if_neg (by omega), if_neg (by omega), if_neg (by omega), if_neg (by omega)]
      exact hret _ _ _ (nI 0) _ _ dX3_succeeds_257 hw rfl rfl ⟨b2i_f (by clear hret hw hl M hK hZ hx hb; unfold grpOk cOk; rw [if_neg (by omega), if_neg (by omega), if_neg (by omega), if_neg (by omega), if_neg (by omega), if_neg (by omega), if_neg (by omega), if_pos (by omega)]; exact decide_eq_false (by omega)), γ, by rw [hR]⟩
    have hz := nzF c_31 (by omega)
    refine lv_aload_n hx hb dX3_succeeds_241 rfl (lv_at hl 3 rfl) ?_
    refine x_get M hK hw 0 0 rfl rfl ff_X3_43 rfl dX3_succeeds_242 ?_
    refine lv_iload_n hx hb dX3_succeeds_245 rfl (lv_at hl 2 rfl) ?_
    refine x_iald M hK hw 0 4 rfl rfl (by omega) (by decide) dX3_succeeds_246 ?_
    refine x_topN (n := ρ (14 + 21 * ((g / 1000) % 10))) (congrArg nI (rgt_at (j := ((g / 1000) % 10)) (by omega) rfl (by omega))) ?_
    have q_32 : ρ (14 + 21 * ((g / 1000) % 10)) ≤ 99 := hI.rgt (j := ((g / 1000) % 10)) (by omega) (by omega)
    refine lv_iload hx hb dX3_succeeds_247 (lv_at hl 0 rfl) ?_
    refine x_clt M (tgt := 256) (by omega) (by omega) dX3_succeeds_249 (by decide) (fun c_33 => ?_) (fun c_33 => ?_)
    · refine lv_iconst (v := (nI 0)) hx hb dX3_succeeds_256 (by decide) ?_
      have hR : grpRow ρ g = ρ := by clear hret hw hl M hK hZ hx hb; unfold grpRow cRow; rw [if_neg (by omega), if_neg (by omega), if_neg (by omega), if_neg (by omega), if_neg (by omega), if_neg (by omega)]
      exact hret _ _ _ (nI 0) _ _ dX3_succeeds_257 hw rfl rfl ⟨b2i_f (by clear hret hw hl M hK hZ hx hb; unfold grpOk cOk; rw [if_neg (by omega), if_neg (by omega), if_neg (by omega), if_neg (by omega), if_neg (by omega), if_neg (by omega), if_neg (by omega), if_pos (by omega)]; exact decide_eq_false (by omega)), γ, by rw [hR]⟩
    refine lv_iconst (v := (nI 1)) hx hb dX3_succeeds_252 (by decide) ?_
    refine lv_goto (tgt := 257) hx hb dX3_succeeds_253 (by decide) ?_
    have hR : grpRow ρ g = ρ := by clear hret hw hl M hK hZ hx hb; unfold grpRow cRow; rw [if_neg (by omega), if_neg (by omega), if_neg (by omega), if_neg (by omega), if_neg (by omega), if_neg (by omega)]
    exact hret _ _ _ (nI 1) _ _ dX3_succeeds_257 hw rfl rfl ⟨b2i_t (by clear hret hw hl M hK hZ hx hb; unfold grpOk cOk; rw [if_neg (by omega), if_neg (by omega), if_neg (by omega), if_neg (by omega), if_neg (by omega), if_neg (by omega), if_neg (by omega), if_pos (by omega)]; exact decide_eq_true (by omega)), γ, by rw [hR]⟩
  · refine x_topN (n := 9) (congrArg nI e_1) ?_
    refine lv_tableIn (tgt := 258) hx hb dX3_succeeds_28 (by decide) (by decide) rfl (by decide) ?_
    refine lv_iload_n hx hb dX3_succeeds_258 rfl (lv_at hl 4 rfl) ?_
    refine lv_sipush (v := (nI 10000)) hx hb dX3_succeeds_259 (by decide) ?_
    refine x_irem M (n := g % 10000) dX3_succeeds_262 (by omega) (by omega) (by decide) rfl ?_
    refine x_zne M (tgt := 277) (by omega) dX3_succeeds_263 (by decide) (fun c_34 => ?_) (fun c_34 => ?_)
    · refine lv_iconst (v := (nI 0)) hx hb dX3_succeeds_277 (by decide) ?_
      have hR : grpRow ρ g = ρ := by clear hret hw hl M hK hZ hx hb; unfold grpRow cRow; rw [if_neg (by omega), if_neg (by omega), if_neg (by omega), if_neg (by omega), if_neg (by omega), if_neg (by omega)]
      exact hret _ _ _ (nI 0) _ _ dX3_succeeds_278 hw rfl rfl ⟨b2i_f (by clear hret hw hl M hK hZ hx hb; unfold grpOk cOk; rw [if_neg (by omega), if_neg (by omega), if_neg (by omega), if_neg (by omega), if_neg (by omega), if_neg (by omega), if_neg (by omega), if_neg (by omega), if_pos (by omega)]; exact decide_eq_false (by omega)), γ, by rw [hR]⟩
    refine lv_aload_n hx hb dX3_succeeds_266 rfl (lv_at hl 3 rfl) ?_
    refine x_get M hK hw 0 0 rfl rfl ff_X3_46 rfl dX3_succeeds_267 ?_
    refine x_zeq M (tgt := 277) (by omega) dX3_succeeds_270 (by decide) (fun c_35 => ?_) (fun c_35 => ?_)
    · refine lv_iconst (v := (nI 0)) hx hb dX3_succeeds_277 (by decide) ?_
      have hR : grpRow ρ g = ρ := by clear hret hw hl M hK hZ hx hb; unfold grpRow cRow; rw [if_neg (by omega), if_neg (by omega), if_neg (by omega), if_neg (by omega), if_neg (by omega), if_neg (by omega)]
      exact hret _ _ _ (nI 0) _ _ dX3_succeeds_278 hw rfl rfl ⟨b2i_f (by clear hret hw hl M hK hZ hx hb; unfold grpOk cOk; rw [if_neg (by omega), if_neg (by omega), if_neg (by omega), if_neg (by omega), if_neg (by omega), if_neg (by omega), if_neg (by omega), if_neg (by omega), if_pos (by omega)]; exact decide_eq_false (by omega)), γ, by rw [hR]⟩
    refine lv_iconst (v := (nI 1)) hx hb dX3_succeeds_273 (by decide) ?_
    refine lv_goto (tgt := 278) hx hb dX3_succeeds_274 (by decide) ?_
    have hR : grpRow ρ g = ρ := by clear hret hw hl M hK hZ hx hb; unfold grpRow cRow; rw [if_neg (by omega), if_neg (by omega), if_neg (by omega), if_neg (by omega), if_neg (by omega), if_neg (by omega)]
    exact hret _ _ _ (nI 1) _ _ dX3_succeeds_278 hw rfl rfl ⟨b2i_t (by clear hret hw hl M hK hZ hx hb; unfold grpOk cOk; rw [if_neg (by omega), if_neg (by omega), if_neg (by omega), if_neg (by omega), if_neg (by omega), if_neg (by omega), if_neg (by omega), if_neg (by omega), if_pos (by omega)]; exact decide_eq_true (by omega)), γ, by rw [hR]⟩
