theorem ci_X2_17 : xcI RX2 17 yX1_init cX1_init 1 := ⟨mw_111, mw_31, mw_2, mw_32, by decide +kernel, rfl⟩
theorem ci_X5_9 : xcI RX5 9 yX1_init cX1_init 1 := ⟨mw_30, mw_31, mw_2, mw_32, by decide +kernel, rfl⟩
theorem ci_X5_21 : xcI RX5 21 yX2_init cX2_init 2 := ⟨mw_105, mw_106, mw_3, mw_107, by decide +kernel, rfl⟩
theorem ci_L_229 : xcI RL 229 yX5_init cX5_init 1 := ⟨mw_22, mw_23, mw_1, mw_24, by decide +kernel, rfl⟩
theorem va_up_if {j q : Nat} : va_up (fun k => if k < j then some (q + 11 * k) else none) j (some (q + 11 * j)) = fun k => if k < j + 1 then some (q + 11 * k) else none := by
  funext k
  simp only [va_up]
  by_cases e : k = j
  · subst e; simp
  · by_cases c : k < j
    · simp [e, c, Nat.lt_succ_of_lt c]
    · simp [e, c, show ¬ k < j + 1 by omega]
theorem ringL_ext {Y : Nat → Nat} {q j : Nat} {rw : Nat → Nat → Nat} {gg : Nat → Nat → Nat → Nat} {g : Nat → Nat → Nat} : ringL Y q (setR rw j (rw j)) (setR gg j g) 0 (j + 1) = ringL Y q rw gg 0 j ++ aucW Y (q + 11 * j) (rw j) g := by
  rw [ringL_add, ringL_set (Or.inr (by omega)), Nat.zero_add]
  show _ ++ (aucW Y (q + 11 * j) (setR rw j (rw j) j) (setR gg j g j) ++ []) = _
  rw [setR_s, setR_s, List.append_nil]
theorem setR_id {f : Nat → Nat → Nat} {k : Nat} : setR f k (f k) = f := by
  funext j; unfold setR; split
  · next e => rw [e]
  · rfl
set_option maxHeartbeats 4000000 in
theorem n_X2 (l : Launch) (G : va_G) (Y : Nat → Nat) : CtN l yX2_init cX2_init 2 6 160 155 2114 2 [.null, .int (nI 0), .int (nI 0)] (fun h sg => ∃ gg : Nat → Nat → Nat → Nat, sg = [hisW Y h (h + 2) 0 0, ringW Y (h + 2) (fun _ => row0) gg]) G Y := by
  refine x_ofN (by decide) (by decide) (fun h p e s m args below meth c ls Q M hK hZ hAO hnm hs0 hw hl hret => ?_)
  obtain ⟨hx, hb, -⟩ := id M
  have hnm : meth.name = "<init>" := hnm
  have hz : s.heap.size = h + 1 := hs0
  refine lv_aload_n hx hb dX2_init_0 rfl (lv_at hl 0 rfl) ?_
  refine W.objInit hx hb M.2.2.2.1 (M.2.2.2.2 _ mw_108) (M.2.2.2.2 _ mw_26) (M.2.2.2.2 _ mw_27) rfl (by rw [M.2.2.1]; exact hl.1) rfl dX2_init_1 (Nat.le_of_ble_eq_true rfl) (Nat.le_of_ble_eq_true rfl) ?_
  refine lv_aload_n hx hb dX2_init_4 rfl (lv_at hl 0 rfl) ?_
  refine lv_bipush (v := nI 14) hx hb dX2_init_5 (by decide) ?_
  refine x_newq (z := h + 1) (N := 14) M hK hAO hw mw_109 (by decide) hz (Nat.le_of_ble_eq_true rfl) (Nat.le_of_ble_eq_true rfl) dX2_init_7 (fun H hz hw => ?_)
  have hw : xW G (fun q => h ≤ q) s.heap [[(h, .inr (2, [.null, .int (nI 0), .int (nI 0)]))], [(h + 1, .inl (Y 4, 14, .inr (.inr (.inr (.inr (fun _ => none))))))]] _ _ := hw
  refine x_putF M hK hw 0 0 rfl rfl fp_X2_11 hnm rfl rfl (Nat.le_of_ble_eq_true rfl) dX2_init_10 (fun H locs hw hz2 => ?_)
  have hz := hz2.trans hz
  have hw : xW G (fun q => h ≤ q) s.heap [[(h, .inr (2, [.ref (h + 1), .int (nI 0), .int (nI 0)]))], [(h + 1, .inl (Y 4, 14, .inr (.inr (.inr (.inr (fun _ => none))))))]] _ _ := hw
  have hw : xW G (fun q => h ≤ q) s.heap [[(h, .inr (2, [.ref (h + 1), .int (nI 0), .int (nI 0)]))], [(h + 1, .inl (Y 4, 14, .inr (.inr (.inr (.inr (fun k => if k < 0 then some (h + 2 + 11 * k) else none))))))], ringL Y (h + 2) (fun _ => row0) (fun _ _ _ => 0) 0 0] _ _ := hw.recut rfl
  refine lv_iconst (v := nI 0) hx hb dX2_init_13 (by decide) ?_
  refine lv_istore_n (lv' := [(1, .int (nI 0)), (0, .ref h)]) hx hb dX2_init_14 rfl hl (by decide) rfl (fun ls hl => ?_)
  have LP : ∀ (fu j : Nat), 14 ≤ j + fu → j ≤ 14 → ∀ (gg : Nat → Nat → Nat → Nat) (H : Heap) (locs : List Loc) (ls : Array Slot) (cells slots : Nat), cells = 1 + 11 * j → slots = 14 + 150 * j → H.size = h + 2 + 11 * j → xW G (fun q => h ≤ q) s.heap [[(h, .inr (2, [.ref (h + 1), .int (nI 0), .int (nI 0)]))], [(h + 1, .inl (Y 4, 14, .inr (.inr (.inr (.inr (fun k => if k < j then some (h + 2 + 11 * k) else none))))))], ringL Y (h + 2) (fun _ => row0) gg 0 j] H locs → lv_has ls 2 [(1, .int (nI j)), (0, .ref h)] → W p l e { frames := 6, cells := 155, slots := 2114, locals := 160 } s m args below meth c H locs cells slots Q (F0 m 15 ls []) := by
    intro fu
    induction fu with
    | zero => 
      intro j h1 h2 gg H locs ls cells slots hc hsl hz hw hl
      refine lv_iload_n hx hb dX2_init_15 rfl (lv_at hl 0 rfl) ?_
      refine lv_bipush (v := nI 14) hx hb dX2_init_16 (by decide) ?_
      refine x_cge M (tgt := 40) (by omega) (by decide) dX2_init_18 (by decide) (fun _ => ?_) (fun z => by omega)
      obtain rfl : j = 14 := by omega
      have hw := hw.congrQ (i := 1) (j := 0) (g := fun k => some (h + 2 + 11 * k)) rfl rfl (fun q hq => (if_pos hq).symm)
      have hw : xW G (fun q => h ≤ q) s.heap [hisW Y h (h + 2) 0 0, ringW Y (h + 2) (fun _ => row0) gg] _ _ := hw.recut rfl
      subst hc; subst hsl
      exact hret _ _ _ _ _ dX2_init_40 (by omega) hw ⟨gg, rfl⟩
    | succ fu ih =>
      intro j h1 h2 gg H locs ls cells slots hc hsl hz hw hl
      refine lv_iload_n hx hb dX2_init_15 rfl (lv_at hl 0 rfl) ?_
      refine lv_bipush (v := nI 14) hx hb dX2_init_16 (by decide) ?_
      refine x_cge M (tgt := 40) (by omega) (by decide) dX2_init_18 (by decide) (fun z => ?_) (fun hj => ?_)
      · obtain rfl : j = 14 := by omega
        have hw := hw.congrQ (i := 1) (j := 0) (g := fun k => some (h + 2 + 11 * k)) rfl rfl (fun q hq => (if_pos hq).symm)
        have hw : xW G (fun q => h ≤ q) s.heap [hisW Y h (h + 2) 0 0, ringW Y (h + 2) (fun _ => row0) gg] _ _ := hw.recut rfl
        subst hc; subst hsl
        exact hret _ _ _ _ _ dX2_init_40 (by omega) hw ⟨gg, rfl⟩
      refine lv_aload_n hx hb dX2_init_21 rfl (lv_at hl 1 rfl) ?_
      refine x_get M hK hw 0 0 rfl rfl ff_X2_11 rfl dX2_init_22 ?_
      refine lv_iload_n hx hb dX2_init_25 rfl (lv_at hl 0 rfl) ?_
      refine x_new (ci := 1) M hK hw iw_X1 tyX1 tyX1_ok mw_109 mw_29 mw_2 rfl fs_X1 hz (by show _ ≤ 155; omega) (by show _ ≤ 2114; omega) dX2_init_26 (fun H hz hw => ?_)
      refine lv_dup hx hb dX2_init_29 rfl ?_
      refine x_init (n_X1 l G Y) ci_X2_17 M hK hZ hAO hw hz (by omega) hl.1 ⟨(Nat.le_of_ble_eq_true rfl), (Nat.le_of_ble_eq_true rfl)⟩ ⟨by show _ ≤ 155; omega, by show _ ≤ 2114; omega⟩ (Nat.le_of_ble_eq_true rfl) dX2_init_30 ?_
      rintro sg ⟨γ', rfl⟩ H locs hz hw
      refine x_astq M hK hw 1 0 3 0 rfl rfl rfl rfl (k := j) hj (by decide) dX2_init_33 (fun H locs hz2 hw => ?_)
      have hz := hz2.trans hz
      have hw : xW G (fun q => h ≤ q) s.heap [[(h, .inr (2, [.ref (h + 1), .int (nI 0), .int (nI 0)]))], [(h + 1, .inl (Y 4, 14, .inr (.inr (.inr (.inr (va_up (fun k => if k < j then some (h + 2 + 11 * k) else none) j (some (h + 2 + 11 * j))))))))], ringL Y (h + 2) (fun _ => row0) gg 0 j, aucW Y (h + 2 + 11 * j) row0 γ'] _ _ := hw
      rw [va_up_if] at hw
      have hw : xW G (fun q => h ≤ q) s.heap [[(h, .inr (2, [.ref (h + 1), .int (nI 0), .int (nI 0)]))], [(h + 1, .inl (Y 4, 14, .inr (.inr (.inr (.inr (fun k => if k < j + 1 then some (h + 2 + 11 * k) else none))))))], ringL Y (h + 2) (fun _ => row0) (setR gg j γ') 0 (j + 1)] _ _ := hw.recut (by have z := ringL_ext (Y := Y) (q := h + 2) (j := j) (rw := fun _ => row0) (gg := gg) (g := γ'); rw [setR_id] at z; simp only [List.flatten_cons, List.flatten_nil, List.append_nil, z, List.append_assoc])
      refine lv_iinc (v := nI (j + 1)) (lv' := [(1, .int (nI (j + 1))), (0, .ref h)]) hx hb dX2_init_34 hl (k := 0) rfl (by rw [show (1 : Int) = ((1 : Nat) : Int) from rfl, nI_inc]) (by decide) rfl (fun ls hl => ?_)
      refine lv_goto (tgt := 15) hx hb dX2_init_37 (by decide) ?_
      exact ih (j + 1) (by omega) (by omega) _ _ _ _ _ _ (by omega) (by omega) (by omega) hw hl
  exact LP 14 0 (by decide) (by decide) _ _ _ _ _ _ rfl rfl hz hw hl
