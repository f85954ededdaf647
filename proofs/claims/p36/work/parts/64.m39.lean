section XINN
variable {p : Program} {l : Launch} {e : Env} {R : Room} {s : State} {m : MethodId} {args : Array Value} {below : List Frame} {meth : Method} {c : Code} {H : Heap} {locs : List Loc} {cells slots : Nat} {Q : State → Prop}
variable {cc : ByteArray} {pc : Nat} {ls : Array Slot} {rest st : List Value} {G : va_G} {Y : Nat → Nat} {A : Nat → Prop} {segs segs0 segsC : List va_W} {own : String} {nL : Nat} {seg : va_W}
variable {y : MethodName} {cy : ByteArray} {maxL fr lo n idx k z : Nat} {ret : Option FieldType} {As : List Value}
/-- the same, of a nest mate's private <init> -/
theorem x_initN {ci : Nat} {fs0 : List Value} {sgf : Nat → List va_W → Prop} {host : String} (hC : CtN l y cy maxL fr lo k n ci fs0 sgf G Y) (hm : (own, idx, y, host) ∈ xNest) (c2 : Cond.instanceMethod y ∈ wB) (c3 : Cond.initialized y.cls ∈ wB) (c4 : Cond.code y cy maxL none ∈ wB) (c5 : y.cls ≠ "java/lang/invoke/MethodHandle" ∧ y.cls ≠ "java/lang/invoke/VarHandle" ∧ (parseMethodDescriptor y.desc).map (fun d => d.parameters.length) = some 0) (c6 : y.name = "<init>") (M : XM p m c cc nL s args own) (hK : xK G Y s) (hZ : xZ Y A s s.heap) (hAO : va_AO RX1 s) (hw : xW G A s.heap (segs ++ [[(z, .inr (ci, fs0))]]) H locs) (hz : H.size = z + 1) (h0 : s.heap.size ≤ z) (hl : ls.size = nL)
    (hR : fr + 1 ≤ R.frames ∧ 8 + (maxL + 11) + lo ≤ R.locals) (hf : cells + k ≤ R.cells ∧ slots + n ≤ R.slots) (hrest : (rest.map fun v => v.category).sum ≤ 8) (hdg : decode cc pc = .ok (.invokespecial idx, 3))
    (kk : ∀ (sg : List va_W), sgf z sg → ∀ (H1 : Heap) (locs1 : List Loc), H1.size = z + 1 + k → xW G A s.heap (segs ++ sg) H1 locs1 → W p l e R s m args below meth c H1 locs1 (cells + k) (slots + n) Q (F0 m (pc + 3) ls rest)) : W p l e R s m args below meth c H locs cells slots Q (F0 m pc ls (.ref z :: rest)) := by
  have hs : [segs.length].map (fun i => (segs ++ [[(z, (Sum.inr (ci, fs0) : va_E))]])[i]?) = [[(z, (Sum.inr (ci, fs0) : va_E))]].map some := by simp
  have hp0 := x_preS (As := [.ref z]) hK hZ hw hs rfl
  rw [hz] at hp0
  have hp : PreS s H (va_Pc [.ref z] (xPreA G Y [[(z, .inr (ci, fs0))]] (z + 1))) [.ref z] := ⟨x_blindA, fun U hU hW => ⟨(hp0.2 U hU hW).1, (hp0.2 U hU hW).2, hAO.moved hW.alike⟩⟩
  have hG : GoodIn wB (.code y cy maxL none :: wB) := fun w h => by
    rcases List.mem_cons.mp h with rfl | h
    · exact gB c4
    · exact gB h
  have hr : va_Run p l e R s m args below meth c H locs cells slots k n (F0 m pc ls (.ref z :: rest)) rest ((va_Qv (sgf z) (fun sg t => va_P G vwCl sg.flatten t.heap ∧ va_D (fun q => z ≤ q) sg.flatten ∧ t.heap.size = z + 1 + k) (fun q => z ≤ q)) (([Value.ref z] : List Value).toArray)) (fun q => z ≤ q) :=
    va_runIN (As := []) M (hC z) ⟨va_cnB 0 M.2.2.2.2 hG rfl rfl rfl (hK.2.1 _ hm) (M.2.2.2.2 _ c3) c5 hR, c6, M.2.2.2.2 _ c2⟩ hp rfl rfl hl rfl (lv_room hrest) hdg hf
  refine va_callv hr hw.2.2.1 (fun q _ h => hw.2.2.2 q (Nat.le_trans h0 h)) (fun q h => hw.2.2.2 q (Nat.le_trans h0 h)) (fun u t H1 locs1 ht hvm hp hB hz1 hk hS => ?_)
  obtain ⟨b1, b2, b3⟩ := hB
  refine kk u hp H1 locs1 (by rw [← ht]; exact b3) (hw.app hz h0 (fun q hq => hk q (by omega) (by omega)) (by rw [← ht]; exact b1) b2 hS)
end XINN
set_option maxHeartbeats 4000000 in
theorem n_X5 (l : Launch) (G : va_G) (Y : Nat → Nat) : CtN l yX5_init cX5_init 1 10 400 208 2862 4 [.null, .null, .null, .null, .null, .null, .null] (fun h sg => ∃ (γ γ1 : Nat → Nat → Nat) (gg : Nat → Nat → Nat → Nat) (δ0 δ1 : Nat → Nat → Nat), sg = [[(h, .inr (4, [.ref (h + 1), .ref (h + 12), .ref (h + 23), .ref (h + 179), .ref (h + 202), .ref (h + 203), .ref (h + 205)]))], aucW Y (h + 1) row0 γ, aucW Y (h + 12) row0 γ1, hisW Y (h + 23) (h + 25) 0 0, ringW Y (h + 25) (fun _ => row0) gg, [(h + 179, .inl (Y 4, 2, .inr (.inr (.inr (.inr (fun k => some (if k = 0 then h + 180 else h + 191)))))))], aucW Y (h + 180) row0 δ0, aucW Y (h + 191) row0 δ1, [(h + 202, .inl (Y 1, 2, .inl (fun _ => 0)))], txtW Y (h + 203) (fun _ => 0) 0, asgW Y (h + 205) (fun _ => 0) (rowF (fun _ => 0)) (rowF (fun _ => 0)) 0]) G Y := by
  refine x_ofN (by decide) (by decide) (fun h p e s m args below meth c ls Q M hK hZ hAO hnm hs0 hw hl hret => ?_)
  obtain ⟨hx, hb, -⟩ := id M
  have hnm : meth.name = "<init>" := hnm
  have hz : s.heap.size = h + 1 := hs0
  refine lv_aload_n hx hb dX5_init_0 rfl (lv_at hl 0 rfl) ?_
  refine W.objInit hx hb M.2.2.2.1 (M.2.2.2.2 _ mw_25) (M.2.2.2.2 _ mw_26) (M.2.2.2.2 _ mw_27) rfl (by rw [M.2.2.1]; exact hl.1) rfl dX5_init_1 (Nat.le_of_ble_eq_true rfl) (Nat.le_of_ble_eq_true rfl) ?_
  refine lv_aload_n hx hb dX5_init_4 rfl (lv_at hl 0 rfl) ?_
  refine x_new (z := h + 1) (ci := 1) M hK hw iw_X1 tyX1 tyX1_ok mw_28 mw_29 mw_2 rfl fs_X1 hz (Nat.le_of_ble_eq_true rfl) (Nat.le_of_ble_eq_true rfl) dX5_init_5 (fun H hz hw => ?_)
  refine lv_dup hx hb dX5_init_8 rfl ?_
  refine x_init (n_X1 l G Y) ci_X5_9 (z := h + 1) M hK hZ hAO hw hz (by omega) hl.1 ⟨(Nat.le_of_ble_eq_true rfl), (Nat.le_of_ble_eq_true rfl)⟩ ⟨(Nat.le_of_ble_eq_true rfl), (Nat.le_of_ble_eq_true rfl)⟩ (Nat.le_of_ble_eq_true rfl) dX5_init_9 ?_
  rintro sg ⟨γ, rfl⟩ H locs hz hw
  have hw : xW G (fun q => h ≤ q) s.heap [[(h, .inr (4, [.null, .null, .null, .null, .null, .null, .null]))], aucW Y (h + 1) row0 γ] _ _ := hw
  have hz : Array.size H = h + 12 := hz
  refine x_putF M hK hw 0 0 rfl rfl fp_X5_10 hnm rfl rfl (Nat.le_of_ble_eq_true rfl) dX5_init_12 (fun H locs hw hz2 => ?_)
  have hz := hz2.trans hz
  have hw : xW G (fun q => h ≤ q) s.heap [[(h, .inr (4, [.ref (h + 1), .null, .null, .null, .null, .null, .null]))], aucW Y (h + 1) row0 γ] _ _ := hw
  refine lv_aload_n hx hb dX5_init_15 rfl (lv_at hl 0 rfl) ?_
  refine x_new (z := h + 12) (ci := 1) M hK hw iw_X1 tyX1 tyX1_ok mw_28 mw_29 mw_2 rfl fs_X1 hz (Nat.le_of_ble_eq_true rfl) (Nat.le_of_ble_eq_true rfl) dX5_init_16 (fun H hz hw => ?_)
  refine lv_dup hx hb dX5_init_19 rfl ?_
  refine x_init (n_X1 l G Y) ci_X5_9 (z := h + 12) M hK hZ hAO hw hz (by omega) hl.1 ⟨(Nat.le_of_ble_eq_true rfl), (Nat.le_of_ble_eq_true rfl)⟩ ⟨(Nat.le_of_ble_eq_true rfl), (Nat.le_of_ble_eq_true rfl)⟩ (Nat.le_of_ble_eq_true rfl) dX5_init_20 ?_
  rintro sg ⟨γ1, rfl⟩ H locs hz hw
  have hw : xW G (fun q => h ≤ q) s.heap [[(h, .inr (4, [.ref (h + 1), .null, .null, .null, .null, .null, .null]))], aucW Y (h + 1) row0 γ, aucW Y (h + 12) row0 γ1] _ _ := hw
  have hz : Array.size H = h + 23 := hz
  refine x_putF M hK hw 0 0 rfl rfl fp_X5_16 hnm rfl rfl (Nat.le_of_ble_eq_true rfl) dX5_init_23 (fun H locs hw hz2 => ?_)
  have hz := hz2.trans hz
  have hw : xW G (fun q => h ≤ q) s.heap [[(h, .inr (4, [.ref (h + 1), .ref (h + 12), .null, .null, .null, .null, .null]))], aucW Y (h + 1) row0 γ, aucW Y (h + 12) row0 γ1] _ _ := hw
  refine lv_aload_n hx hb dX5_init_26 rfl (lv_at hl 0 rfl) ?_
  refine x_new (z := h + 23) (ci := 2) M hK hw iw_X2 tyX2 tyX2_ok mw_103 mw_104 mw_3 rfl fs_X2 hz (Nat.le_of_ble_eq_true rfl) (Nat.le_of_ble_eq_true rfl) dX5_init_27 (fun H hz hw => ?_)
  refine lv_dup hx hb dX5_init_30 rfl ?_
  refine x_init (n_X2 l G Y) ci_X5_21 (z := h + 23) M hK hZ hAO hw hz (by omega) hl.1 ⟨(Nat.le_of_ble_eq_true rfl), (Nat.le_of_ble_eq_true rfl)⟩ ⟨(Nat.le_of_ble_eq_true rfl), (Nat.le_of_ble_eq_true rfl)⟩ (Nat.le_of_ble_eq_true rfl) dX5_init_31 ?_
  rintro sg ⟨gg, rfl⟩ H locs hz hw
  have hw : xW G (fun q => h ≤ q) s.heap [[(h, .inr (4, [.ref (h + 1), .ref (h + 12), .null, .null, .null, .null, .null]))], aucW Y (h + 1) row0 γ, aucW Y (h + 12) row0 γ1, hisW Y (h + 23) (h + 25) 0 0, ringW Y (h + 25) (fun _ => row0) gg] _ _ := hw
  have hz : Array.size H = h + 179 := hz
  refine x_putF M hK hw 0 0 rfl rfl fp_X5_22 hnm rfl rfl (Nat.le_of_ble_eq_true rfl) dX5_init_34 (fun H locs hw hz2 => ?_)
  have hz := hz2.trans hz
  have hw : xW G (fun q => h ≤ q) s.heap [[(h, .inr (4, [.ref (h + 1), .ref (h + 12), .ref (h + 23), .null, .null, .null, .null]))], aucW Y (h + 1) row0 γ, aucW Y (h + 12) row0 γ1, hisW Y (h + 23) (h + 25) 0 0, ringW Y (h + 25) (fun _ => row0) gg] _ _ := hw
  refine lv_aload_n hx hb dX5_init_37 rfl (lv_at hl 0 rfl) ?_
  refine lv_iconst (v := nI 2) hx hb dX5_init_38 (by decide) ?_
  refine x_newq (z := h + 179) (N := 2) M hK hAO hw mw_28 (by decide) hz (Nat.le_of_ble_eq_true rfl) (Nat.le_of_ble_eq_true rfl) dX5_init_39 (fun H hz hw => ?_)
  have hw : xW G (fun q => h ≤ q) s.heap [[(h, .inr (4, [.ref (h + 1), .ref (h + 12), .ref (h + 23), .null, .null, .null, .null]))], aucW Y (h + 1) row0 γ, aucW Y (h + 12) row0 γ1, hisW Y (h + 23) (h + 25) 0 0, ringW Y (h + 25) (fun _ => row0) gg, [(h + 179, .inl (Y 4, 2, .inr (.inr (.inr (.inr (fun _ => none))))))]] _ _ := hw
  have hz : Array.size H = h + 180 := hz
  refine lv_dup hx hb dX5_init_42 rfl ?_
  refine lv_iconst (v := nI 0) hx hb dX5_init_43 (by decide) ?_
  refine x_new (z := h + 180) (ci := 1) M hK hw iw_X1 tyX1 tyX1_ok mw_28 mw_29 mw_2 rfl fs_X1 hz (Nat.le_of_ble_eq_true rfl) (Nat.le_of_ble_eq_true rfl) dX5_init_44 (fun H hz hw => ?_)
  refine lv_dup hx hb dX5_init_47 rfl ?_
  refine x_init (n_X1 l G Y) ci_X5_9 (z := h + 180) M hK hZ hAO hw hz (by omega) hl.1 ⟨(Nat.le_of_ble_eq_true rfl), (Nat.le_of_ble_eq_true rfl)⟩ ⟨(Nat.le_of_ble_eq_true rfl), (Nat.le_of_ble_eq_true rfl)⟩ (Nat.le_of_ble_eq_true rfl) dX5_init_48 ?_
  rintro sg ⟨δ0, rfl⟩ H locs hz hw
  have hw : xW G (fun q => h ≤ q) s.heap [[(h, .inr (4, [.ref (h + 1), .ref (h + 12), .ref (h + 23), .null, .null, .null, .null]))], aucW Y (h + 1) row0 γ, aucW Y (h + 12) row0 γ1, hisW Y (h + 23) (h + 25) 0 0, ringW Y (h + 25) (fun _ => row0) gg, [(h + 179, .inl (Y 4, 2, .inr (.inr (.inr (.inr (fun _ => none))))))], aucW Y (h + 180) row0 δ0] _ _ := hw
  have hz : Array.size H = h + 191 := hz
  refine x_astq M hK hw 5 0 6 0 rfl rfl rfl rfl (k := 0) (by decide) (by decide) dX5_init_51 (fun H locs hz2 hw => ?_)
  have hz := hz2.trans hz
  have hw : xW G (fun q => h ≤ q) s.heap [[(h, .inr (4, [.ref (h + 1), .ref (h + 12), .ref (h + 23), .null, .null, .null, .null]))], aucW Y (h + 1) row0 γ, aucW Y (h + 12) row0 γ1, hisW Y (h + 23) (h + 25) 0 0, ringW Y (h + 25) (fun _ => row0) gg, [(h + 179, .inl (Y 4, 2, .inr (.inr (.inr (.inr (va_up (fun _ => none) 0 (some (h + 180))))))))], aucW Y (h + 180) row0 δ0] _ _ := hw
  refine lv_dup hx hb dX5_init_52 rfl ?_
  refine lv_iconst (v := nI 1) hx hb dX5_init_53 (by decide) ?_
  refine x_new (z := h + 191) (ci := 1) M hK hw iw_X1 tyX1 tyX1_ok mw_28 mw_29 mw_2 rfl fs_X1 hz (Nat.le_of_ble_eq_true rfl) (Nat.le_of_ble_eq_true rfl) dX5_init_54 (fun H hz hw => ?_)
  refine lv_dup hx hb dX5_init_57 rfl ?_
  refine x_init (n_X1 l G Y) ci_X5_9 (z := h + 191) M hK hZ hAO hw hz (by omega) hl.1 ⟨(Nat.le_of_ble_eq_true rfl), (Nat.le_of_ble_eq_true rfl)⟩ ⟨(Nat.le_of_ble_eq_true rfl), (Nat.le_of_ble_eq_true rfl)⟩ (Nat.le_of_ble_eq_true rfl) dX5_init_58 ?_
  rintro sg ⟨δ1, rfl⟩ H locs hz hw
  have hw : xW G (fun q => h ≤ q) s.heap [[(h, .inr (4, [.ref (h + 1), .ref (h + 12), .ref (h + 23), .null, .null, .null, .null]))], aucW Y (h + 1) row0 γ, aucW Y (h + 12) row0 γ1, hisW Y (h + 23) (h + 25) 0 0, ringW Y (h + 25) (fun _ => row0) gg, [(h + 179, .inl (Y 4, 2, .inr (.inr (.inr (.inr (va_up (fun _ => none) 0 (some (h + 180))))))))], aucW Y (h + 180) row0 δ0, aucW Y (h + 191) row0 δ1] _ _ := hw
  have hz : Array.size H = h + 202 := hz
  refine x_astq M hK hw 5 0 7 0 rfl rfl rfl rfl (k := 1) (by decide) (by decide) dX5_init_61 (fun H locs hz2 hw => ?_)
  have hz := hz2.trans hz
  have hw : xW G (fun q => h ≤ q) s.heap [[(h, .inr (4, [.ref (h + 1), .ref (h + 12), .ref (h + 23), .null, .null, .null, .null]))], aucW Y (h + 1) row0 γ, aucW Y (h + 12) row0 γ1, hisW Y (h + 23) (h + 25) 0 0, ringW Y (h + 25) (fun _ => row0) gg, [(h + 179, .inl (Y 4, 2, .inr (.inr (.inr (.inr (va_up (va_up (fun _ => none) 0 (some (h + 180))) 1 (some (h + 191))))))))], aucW Y (h + 180) row0 δ0, aucW Y (h + 191) row0 δ1] _ _ := hw
  have hw := hw.congrQ (i := 5) (j := 0) (g := (fun k => some (if k = 0 then h + 180 else h + 191))) rfl rfl (fun q hq => by rcases (show q = 0 ∨ q = 1 by omega) with rfl | rfl <;> rfl)
  have hw : xW G (fun q => h ≤ q) s.heap [[(h, .inr (4, [.ref (h + 1), .ref (h + 12), .ref (h + 23), .null, .null, .null, .null]))], aucW Y (h + 1) row0 γ, aucW Y (h + 12) row0 γ1, hisW Y (h + 23) (h + 25) 0 0, ringW Y (h + 25) (fun _ => row0) gg, [(h + 179, .inl (Y 4, 2, .inr (.inr (.inr (.inr (fun k => some (if k = 0 then h + 180 else h + 191)))))))], aucW Y (h + 180) row0 δ0, aucW Y (h + 191) row0 δ1] _ _ := hw
  refine x_putF M hK hw 0 0 rfl rfl fp_X5_26 hnm rfl rfl (Nat.le_of_ble_eq_true rfl) dX5_init_62 (fun H locs hw hz2 => ?_)
  have hz := hz2.trans hz
  have hw : xW G (fun q => h ≤ q) s.heap [[(h, .inr (4, [.ref (h + 1), .ref (h + 12), .ref (h + 23), .ref (h + 179), .null, .null, .null]))], aucW Y (h + 1) row0 γ, aucW Y (h + 12) row0 γ1, hisW Y (h + 23) (h + 25) 0 0, ringW Y (h + 25) (fun _ => row0) gg, [(h + 179, .inl (Y 4, 2, .inr (.inr (.inr (.inr (fun k => some (if k = 0 then h + 180 else h + 191)))))))], aucW Y (h + 180) row0 δ0, aucW Y (h + 191) row0 δ1] _ _ := hw
  refine lv_aload_n hx hb dX5_init_65 rfl (lv_at hl 0 rfl) ?_
  refine lv_iconst (v := nI 2) hx hb dX5_init_66 (by decide) ?_
  refine x_newa (atype := .boolean) (kY := 1) (N := 2) (a0 := (2, .inl (fun _ => 0))) (z := h + 202) M hK hw mw_135 rfl rfl (by decide) hz (Nat.le_of_ble_eq_true rfl) (Nat.le_of_ble_eq_true rfl) dX5_init_67 (fun H hz hw => ?_)
  have hw : xW G (fun q => h ≤ q) s.heap [[(h, .inr (4, [.ref (h + 1), .ref (h + 12), .ref (h + 23), .ref (h + 179), .null, .null, .null]))], aucW Y (h + 1) row0 γ, aucW Y (h + 12) row0 γ1, hisW Y (h + 23) (h + 25) 0 0, ringW Y (h + 25) (fun _ => row0) gg, [(h + 179, .inl (Y 4, 2, .inr (.inr (.inr (.inr (fun k => some (if k = 0 then h + 180 else h + 191)))))))], aucW Y (h + 180) row0 δ0, aucW Y (h + 191) row0 δ1, [(h + 202, .inl (Y 1, 2, .inl (fun _ => 0)))]] _ _ := hw
  have hz : Array.size H = h + 203 := hz
  refine x_putF M hK hw 0 0 rfl rfl fp_X5_30 hnm rfl rfl (Nat.le_of_ble_eq_true rfl) dX5_init_69 (fun H locs hw hz2 => ?_)
  have hz := hz2.trans hz
  have hw : xW G (fun q => h ≤ q) s.heap [[(h, .inr (4, [.ref (h + 1), .ref (h + 12), .ref (h + 23), .ref (h + 179), .ref (h + 202), .null, .null]))], aucW Y (h + 1) row0 γ, aucW Y (h + 12) row0 γ1, hisW Y (h + 23) (h + 25) 0 0, ringW Y (h + 25) (fun _ => row0) gg, [(h + 179, .inl (Y 4, 2, .inr (.inr (.inr (.inr (fun k => some (if k = 0 then h + 180 else h + 191)))))))], aucW Y (h + 180) row0 δ0, aucW Y (h + 191) row0 δ1, [(h + 202, .inl (Y 1, 2, .inl (fun _ => 0)))]] _ _ := hw
  refine lv_aload_n hx hb dX5_init_72 rfl (lv_at hl 0 rfl) ?_
  refine x_new (z := h + 203) (ci := 3) M hK hw iw_X4 tyX4 tyX4_ok mw_122 mw_123 mw_4 rfl fs_X4 hz (Nat.le_of_ble_eq_true rfl) (Nat.le_of_ble_eq_true rfl) dX5_init_73 (fun H hz hw => ?_)
  refine lv_dup hx hb dX5_init_76 rfl ?_
  refine x_initN (n_X4 l G Y) (host := RX5) List.mem_cons_self mw_125 mw_4 mw_126 (by decide +kernel) rfl (z := h + 203) M hK hZ hAO hw hz (by omega) hl.1 ⟨(Nat.le_of_ble_eq_true rfl), (Nat.le_of_ble_eq_true rfl)⟩ ⟨(Nat.le_of_ble_eq_true rfl), (Nat.le_of_ble_eq_true rfl)⟩ (Nat.le_of_ble_eq_true rfl) dX5_init_77 ?_
  rintro sg rfl H locs hz hw
  have hw : xW G (fun q => h ≤ q) s.heap [[(h, .inr (4, [.ref (h + 1), .ref (h + 12), .ref (h + 23), .ref (h + 179), .ref (h + 202), .null, .null]))], aucW Y (h + 1) row0 γ, aucW Y (h + 12) row0 γ1, hisW Y (h + 23) (h + 25) 0 0, ringW Y (h + 25) (fun _ => row0) gg, [(h + 179, .inl (Y 4, 2, .inr (.inr (.inr (.inr (fun k => some (if k = 0 then h + 180 else h + 191)))))))], aucW Y (h + 180) row0 δ0, aucW Y (h + 191) row0 δ1, [(h + 202, .inl (Y 1, 2, .inl (fun _ => 0)))], txtW Y (h + 203) (fun _ => 0) 0] _ _ := hw
  have hz : Array.size H = h + 205 := hz
  refine x_putF M hK hw 0 0 rfl rfl fp_X5_37 hnm rfl rfl (Nat.le_of_ble_eq_true rfl) dX5_init_80 (fun H locs hw hz2 => ?_)
  have hz := hz2.trans hz
  have hw : xW G (fun q => h ≤ q) s.heap [[(h, .inr (4, [.ref (h + 1), .ref (h + 12), .ref (h + 23), .ref (h + 179), .ref (h + 202), .ref (h + 203), .null]))], aucW Y (h + 1) row0 γ, aucW Y (h + 12) row0 γ1, hisW Y (h + 23) (h + 25) 0 0, ringW Y (h + 25) (fun _ => row0) gg, [(h + 179, .inl (Y 4, 2, .inr (.inr (.inr (.inr (fun k => some (if k = 0 then h + 180 else h + 191)))))))], aucW Y (h + 180) row0 δ0, aucW Y (h + 191) row0 δ1, [(h + 202, .inl (Y 1, 2, .inl (fun _ => 0)))], txtW Y (h + 203) (fun _ => 0) 0] _ _ := hw
  refine lv_aload_n hx hb dX5_init_83 rfl (lv_at hl 0 rfl) ?_
  refine x_new (z := h + 205) (ci := 0) M hK hw iw_X0 tyX0 tyX0_ok mw_137 mw_138 mw_5 rfl fs_X0 hz (Nat.le_of_ble_eq_true rfl) (Nat.le_of_ble_eq_true rfl) dX5_init_84 (fun H hz hw => ?_)
  refine lv_dup hx hb dX5_init_87 rfl ?_
  refine x_initN (n_X0 l G Y) (host := RX5) (List.mem_cons_of_mem _ List.mem_cons_self) mw_140 mw_5 mw_141 (by decide +kernel) rfl (z := h + 205) M hK hZ hAO hw hz (by omega) hl.1 ⟨(Nat.le_of_ble_eq_true rfl), (Nat.le_of_ble_eq_true rfl)⟩ ⟨(Nat.le_of_ble_eq_true rfl), (Nat.le_of_ble_eq_true rfl)⟩ (Nat.le_of_ble_eq_true rfl) dX5_init_88 ?_
  rintro sg rfl H locs hz hw
  have hw : xW G (fun q => h ≤ q) s.heap [[(h, .inr (4, [.ref (h + 1), .ref (h + 12), .ref (h + 23), .ref (h + 179), .ref (h + 202), .ref (h + 203), .null]))], aucW Y (h + 1) row0 γ, aucW Y (h + 12) row0 γ1, hisW Y (h + 23) (h + 25) 0 0, ringW Y (h + 25) (fun _ => row0) gg, [(h + 179, .inl (Y 4, 2, .inr (.inr (.inr (.inr (fun k => some (if k = 0 then h + 180 else h + 191)))))))], aucW Y (h + 180) row0 δ0, aucW Y (h + 191) row0 δ1, [(h + 202, .inl (Y 1, 2, .inl (fun _ => 0)))], txtW Y (h + 203) (fun _ => 0) 0, asgW Y (h + 205) (fun _ => 0) (rowF (fun _ => 0)) (rowF (fun _ => 0)) 0] _ _ := hw
  have hz : Array.size H = h + 209 := hz
  refine x_putF M hK hw 0 0 rfl rfl fp_X5_44 hnm rfl rfl (Nat.le_of_ble_eq_true rfl) dX5_init_91 (fun H locs hw hz2 => ?_)
  have hz := hz2.trans hz
  have hw : xW G (fun q => h ≤ q) s.heap [[(h, .inr (4, [.ref (h + 1), .ref (h + 12), .ref (h + 23), .ref (h + 179), .ref (h + 202), .ref (h + 203), .ref (h + 205)]))], aucW Y (h + 1) row0 γ, aucW Y (h + 12) row0 γ1, hisW Y (h + 23) (h + 25) 0 0, ringW Y (h + 25) (fun _ => row0) gg, [(h + 179, .inl (Y 4, 2, .inr (.inr (.inr (.inr (fun k => some (if k = 0 then h + 180 else h + 191)))))))], aucW Y (h + 180) row0 δ0, aucW Y (h + 191) row0 δ1, [(h + 202, .inl (Y 1, 2, .inl (fun _ => 0)))], txtW Y (h + 203) (fun _ => 0) 0, asgW Y (h + 205) (fun _ => 0) (rowF (fun _ => 0)) (rowF (fun _ => 0)) 0] _ _ := hw
  exact hret _ _ _ _ _ dX5_init_94 hz hw ⟨γ, γ1, gg, δ0, δ1, rfl⟩
