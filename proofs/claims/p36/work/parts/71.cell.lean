/-! a place of the script, or what stands for one behind its end: a number from 0 on -/
def CtX (l : Launch) (b L : Nat) (xs : Nat → Int32) (k : Nat) (G : va_G) (Y : Nat → Nat) : Prop :=
  ∀ sz, Met l yL_cell (.code yL_cell cL_cell 2 (some .int) :: wB) (xRmG 0 0 0 0) (va_Pc [.ref b, .int (nI k)] (fun U => xPreN G Y [] sz U ∧ va_X b L xs U U.heap ∧ b < sz)) (va_Qi (fun r sg => (∃ v : Nat, v < 2 ^ 31 ∧ r = nI v) ∧ sg = []) (xB G []) (va_A ([] : List va_W).flatten sz)) 0 0 (va_A ([] : List va_W).flatten sz)
theorem and31 (x : Int32) : ∃ v : Nat, v < 2 ^ 31 ∧ x &&& nI 2147483647 = nI v := by
  refine ⟨x.toBitVec.toNat % 2 ^ 31, Nat.mod_lt _ (by decide), ?_⟩
  apply Int32.toBitVec_inj.mp
  apply BitVec.eq_of_toNat_eq
  show (x.toBitVec &&& 2147483647#32).toNat = (BitVec.ofNat 32 (x.toBitVec.toNat % 2 ^ 31)).toNat
  rw [BitVec.toNat_and, BitVec.toNat_ofNat, BitVec.toNat_ofNat, show 2147483647 % 2 ^ 32 = 2 ^ 31 - 1 from rfl, Nat.and_two_pow_sub_one_eq_mod]
  omega
theorem notA {b sz : Nat} (h : b < sz) : ¬ va_A ([] : List va_W).flatten sz b := by
  rintro (⟨k, e, h2⟩ | h2)
  · simp at h2
  · omega
set_option maxHeartbeats 4000000 in
theorem c_cell (l : Launch) (G : va_G) (Y : Nat → Nat) {b L k : Nat} {xs : Nat → Int32} (hk : k < 2 ^ 31) (hL : L < 2 ^ 31) : CtX l b L xs k G Y := by
  intro sz
  refine Met.ofW (cc := cL_cell) (maxL := 2) (ret := some .int) (by decide) rfl ?_
  intro p e s m args below meth c s₁ B hml hv
  obtain ⟨rfl, ⟨⟨hsz, hP, hD0, hK, hZ⟩, hN⟩, hX, hbl⟩ := hv
  have hts := atoms_spec (ws := _) B.pre
  have hown : s.vm.findClass yL_cell.cls = some m.cls := findClass_of_methodNamed B.named
  subst hsz
  rw [lg_entry_eq]
  have M : XM p m c cL_cell 2 s _ yL_cell.cls := ⟨B.exec, B.bytes, hml, hown, fun w h => hts w (List.mem_cons_of_mem _ h)⟩
  obtain ⟨hx, hb, -⟩ := id M
  have hw : xW G (va_A ([] : List va_W).flatten s.heap.size) s.heap [] s.heap [] := ⟨hP, hD0.self, va_S.rf, fun q h => Or.inr h⟩
  have hbA := notA hbl
  have hl := lv_entry ([.ref b, .int (nI k)]) (n := 2) (Nat.le_of_ble_eq_true rfl)
  generalize (lg_sl ([.ref b, .int (nI k)]) ++ List.replicate (2 - (lg_sl ([.ref b, .int (nI k)])).length) Slot.unset).toArray = ls at hl ⊢
  have hl : lv_has ls 2 [(0, .ref b), (1, .int (nI k))] := hl
  have L22 : ∀ x : Int32, W p l e (xRmG 0 0 0 0) s m #[Value.ref b, Value.int (nI k)] below meth c s.heap [] 0 0 (MQ below (va_Qi (fun r sg => (∃ v : Nat, v < 2 ^ 31 ∧ r = nI v) ∧ sg = []) (xB G []) (va_A ([] : List va_W).flatten s.heap.size)) #[Value.ref b, Value.int (nI k)] s 0 0 (va_A ([] : List va_W).flatten s.heap.size)) (F0 m 22 ls [.int x]) := by
    intro x
    refine lv_ldc (v := nI 2147483647) hx hb M.2.2.2.1 (M.2.2.2.2 _ mw_443) dL_cell_22 ?_
    refine lv_iand hx hb dL_cell_24 ?_
    obtain ⟨v, hv, e⟩ := and31 x
    rw [e]
    exact x_iret M B.returns B.notSynchronized hw dL_cell_25 rfl rfl ⟨⟨v, hv, rfl⟩, rfl⟩
  refine lv_iload_n hx hb dL_cell_0 rfl (lv_at hl 1 rfl) ?_
  refine lv_aload_n hx hb dL_cell_1 rfl (lv_at hl 0 rfl) ?_
  refine va_slen hx hb hX hbl hbA hw.2.2.1 dL_cell_2 ?_
  refine x_cge M (a := k) (b := L) (tgt := 12) hk hL dL_cell_3 (by decide) (fun _ => ?_) (fun hkL => ?_)
  · refine lv_ldc (v := nI 15518537) hx hb M.2.2.2.1 (M.2.2.2.2 _ mw_442) dL_cell_12 ?_
    refine lv_iload_n hx hb dL_cell_14 rfl (lv_at hl 1 rfl) ?_
    refine lv_iconst (v := nI 3) hx hb dL_cell_15 (by decide) ?_
    refine lv_iadd hx hb dL_cell_16 ?_
    refine lv_imul hx hb dL_cell_17 ?_
    refine lv_sipush (v := nI 10781) hx hb dL_cell_18 (by decide) ?_
    refine lv_iadd hx hb dL_cell_21 ?_
    exact L22 _
  · refine lv_aload_n hx hb dL_cell_6 rfl (lv_at hl 0 rfl) ?_
    refine lv_iload_n hx hb dL_cell_7 rfl (lv_at hl 1 rfl) ?_
    refine va_sld hx hb hX hbl hbA hw.2.2.1 (vp_in_nI hkL hL) dL_cell_8 ?_
    refine lv_goto (tgt := 22) hx hb dL_cell_9 (by decide) ?_
    exact L22 _
section XCELL
variable {p : Program} {l : Launch} {e : Env} {R : Room} {s : State} {m : MethodId} {args : Array Value} {below : List Frame} {meth : Method} {c : Code} {H : Heap} {locs : List Loc} {cells slots : Nat} {Q : State → Prop}
variable {cc : ByteArray} {pc nL : Nat} {ls : Array Slot} {rest st : List Value} {G : va_G} {Y : Nat → Nat} {A : Nat → Prop} {segs : List va_W} {b L k : Nat} {xs : Nat → Int32}
theorem x_blindX {As : List Value} {sz : Nat} : FrameBlind (va_Pc As (fun U => xPreN G Y [] sz U ∧ va_X b L xs U U.heap ∧ b < sz)) := fun a U g mk q => by
  obtain ⟨q0, q1, q2, q3⟩ := q
  obtain ⟨r0, r1⟩ := x_blindN (As := As) (G := G) (Y := Y) (sc := []) (sz := sz) a U g mk ⟨q0, q1⟩
  exact ⟨r0, r1, q2.moved (U := U.calling g mk a) (Vm.Alike.refl U.vm), q3⟩
theorem x_cX (hC : CtX l b L xs k G Y) (M : XM p m c cc nL s args RL) (hK : xK G Y s) (hZ : xZ Y A s s.heap) (hN : xN s) (hX : va_X b L xs s s.heap) (hbl : b < s.heap.size) (hbA : ¬ A b) (hw : xW G A s.heap segs H locs) (hl : ls.size = nL)
    (hR : 0 + 1 ≤ R.frames ∧ 8 + (2 + 11) + 0 ≤ R.locals) (hf : cells ≤ R.cells ∧ slots ≤ R.slots) (hst : st = .int (nI k) :: .ref b :: rest) (hrest : (rest.map fun v => v.category).sum ≤ 8) (hdg : decode cc pc = .ok (.invokestatic 230, 3))
    (kk : ∀ v : Nat, v < 2 ^ 31 → ∀ (H1 : Heap) (locs1 : List Loc), xW G A s.heap segs H1 locs1 → W p l e R s m args below meth c H1 locs1 cells slots Q (F0 m (pc + 3) ls (.int (nI v) :: rest))) : W p l e R s m args below meth c H locs cells slots Q (F0 m pc ls st) := by
  have hs : ([] : List Nat).map (fun i => segs[i]?) = ([] : List va_W).map some := rfl
  have hp0 := x_preS (As := [.ref b, .int (nI k)]) hK hZ hw hs rfl
  have hp : PreS s H (va_Pc [.ref b, .int (nI k)] (fun U => xPreN G Y [] H.size U ∧ va_X b L xs U U.heap ∧ b < H.size)) [.ref b, .int (nI k)] :=
    ⟨x_blindX, fun U hU hW => ⟨(hp0.2 U hU hW).1, ⟨(hp0.2 U hU hW).2, hN.moved hW.alike⟩, by rw [hU]; exact (hX.kept (hw.2.2.1.2.1 b hbl hbA)).moved hW.alike, Nat.lt_of_lt_of_le hbl hw.2.2.1.1⟩⟩
  have hr : va_Run p l e R s m args below meth c H locs cells slots 0 0 (F0 m pc ls st) rest (va_Qi (fun r sg => (∃ v : Nat, v < 2 ^ 31 ∧ r = nI v) ∧ sg = []) (xB G []) (va_A ([] : List va_W).flatten H.size) (([.ref b, .int (nI k)] : List Value).toArray)) (va_A ([] : List va_W).flatten H.size) := va_runS M (hC H.size) (va_cwS 2 M.2.2.2.2 cw_L_230.1 rfl rfl rfl cw_L_230.2 hR) hp rfl rfl hl hst (lv_room hrest) hdg ⟨hf.1, hf.2⟩
  obtain ⟨hP, hD, hF⟩ := hw.part hs rfl
  refine va_calli hr hw.2.2.1 (fun q _ h => hF q h) hF (fun r u t H1 locs1 ht hvm hp hB hz hk hS => ?_)
  obtain ⟨⟨v, hv, rfl⟩, rfl⟩ := hp
  exact kk v hv H1 locs1 (hw.back hs rfl hB.2 (by rw [← ht]; exact hB.1) hk hS)
end XCELL
/-- what 'holds' leaves behind -/
theorem OK.hld {B : Nat} {ρ : Nat → Nat} {nx ct : Nat} {rr : Nat → Nat → Nat} {κ0 κ1 : Nat → Nat} {fl : Nat → Int32} {n : Nat} {lt : Nat → Nat} {x : Nat} (h : OK B ρ nx ct rr κ0 κ1 fl n lt) : OK B ρ nx (hCt ρ ct) (hRr ρ nx rr x) κ0 κ1 fl n lt := by
  unfold hCt hRr
  by_cases c : ρ 1 = 0 ∧ 0 < ρ 4
  · rw [if_pos c, if_pos c]
    exact (h.twice (Nat.le_refl B) (Good_bid h.good (Nat.mod_lt _ c.2))).2.2.2.2
  · rw [if_neg c, if_neg c]
    exact h
theorem y4_lN {y : Nat} (h : y < 2 ^ 31) : (nI y).toInt64 * 4 = lN (y * 4) := by
  have e : (nI y).toInt64 = lN y := by
    rw [i64N h]
    exact Int64.ofInt_eq_ofNat
  rw [e, show (4 : Int64) = lN 4 from rfl, lN_mul9]
theorem xPut_allN {sc sg : List va_W} {n : Nat} (hn : sc.length = n) (h : sg.map ads = sc.map ads) : xPut sc (List.range n) sg = sg := by subst hn; exact xPut_all h
theorem allI_getN {sc : List va_W} {n : Nat} (hn : sc.length = n) : (List.range n).map (fun i => sc[i]?) = sc.map some := by subst hn; exact allI_get
