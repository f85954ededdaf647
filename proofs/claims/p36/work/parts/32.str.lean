/-! answers that are references; the String constants -/
def CtR (l : Launch) (y : MethodName) (cc : ByteArray) (maxL : Nat) (ty : FieldType) (fr lo : Nat) (As : List Value) (segs0 : List va_W) (post : Nat → List va_W → Prop) (G : va_G) (Y : Nat → Nat) : Prop :=
  ∀ sz, Met l y (.code y cc maxL (some ty) :: wB) (xRm fr lo) (va_Pc As (xPre G Y segs0 sz)) (va_Qr (fun u : Nat × List va_W => post u.1 u.2) (fun u a t => a = u.1 ∧ xB G segs0 u.2 t) (va_A segs0.flatten sz)) 0 0 (va_A segs0.flatten sz)
section XSTR
variable {p : Program} {l : Launch} {e : Env} {R : Room} {s : State} {m : MethodId} {args : Array Value} {below : List Frame} {meth : Method} {c : Code} {H : Heap} {locs : List Loc} {cells slots : Nat} {Q : State → Prop}
variable {cc : ByteArray} {pc : Nat} {ls : Array Slot} {rest st : List Value} {G : va_G} {Y : Nat → Nat} {A : Nat → Prop} {H0 : Heap} {segs segs0 segsC : List va_W} {own : String} {nL : Nat} {seg : va_W}
variable {y : MethodName} {cy : ByteArray} {maxL fr lo n idx : Nat} {ty : FieldType} {As : List Value}
theorem x_ofR {post : Nat → List va_W → Prop} (hy : plainName y.cls = true) (hlen : (lg_sl As).length ≤ maxL) (hrt : (∃ n, ty = .object n) ∨ ∃ t, ty = .array t)
    (body : ∀ (p : Program) (e : Env) (s : State) (m : MethodId) (args : Array Value) (below : List Frame) (meth : Method) (c : Code) (A : Nat → Prop) (ls : Array Slot) (Q : State → Prop), XM p m c cc maxL s args y.cls → xK G Y s → xZ Y A s s.heap → xW G A s.heap segs0 s.heap [] → lv_has ls maxL (lv_args 0 As) →
      (∀ (H : Heap) (locs : List Loc) (sg : List va_W) (r : Nat) (pc : Nat) (ls : Array Slot), decode cc pc = .ok (.areturn, 1) → xW G A s.heap sg H locs → sg.map ads = segs0.map ads → post r sg → W p l e (xRm fr lo) s m args below meth c H locs 0 0 Q (F0 m pc ls [.ref r])) →
      W p l e (xRm fr lo) s m args below meth c s.heap [] 0 0 Q (F0 m 0 ls [])) : CtR l y cc maxL ty fr lo As segs0 post G Y := by
  intro sz
  refine Met.ofW (cc := cc) (maxL := maxL) (ret := some ty) hy rfl ?_
  intro p e s m args below meth c s₁ B hml hv
  obtain ⟨rfl, hsz, hP, hD0, hK, hZ⟩ := hv
  have hts := atoms_spec (ws := _) B.pre
  have hown : s.vm.findClass y.cls = some m.cls := findClass_of_methodNamed B.named
  subst hsz
  rw [lg_entry_eq]
  have M : XM p m c cc maxL s _ y.cls := ⟨B.exec, B.bytes, hml, hown, fun w h => hts w (List.mem_cons_of_mem _ h)⟩
  exact body p e s m _ below meth c (va_A segs0.flatten s.heap.size) _ _ M hK hZ ⟨hP, hD0.self, va_S.rf, fun q h => Or.inr h⟩ (lv_entry As hlen)
    (fun H locs sg r pc ls hd hw he hp => W.aret M.1 M.2.1 B.returns hrt (Or.inr ⟨_, rfl⟩) (fun t ht _ => ⟨⟨(r, sg), r, rfl, hp, rfl, by rw [ht]; exact hw.1, he⟩, hw.2.2.1.F ht⟩) hw.2.2.1.2.2 hd B.notSynchronized)
theorem x_backR {post : Nat → List va_W → Prop} {is : List Nat} {a : Array Value} (hw : xW G A s.heap segs H locs) (hs : is.map (fun i => segs[i]?) = segsC.map some) (hnd : va_nd is = true)
    (hr : va_Run p l e R s m args below meth c H locs cells slots 0 0 (F0 m pc ls st) rest (va_Qr (fun u : Nat × List va_W => post u.1 u.2) (fun u a t => a = u.1 ∧ xB G segsC u.2 t) (va_A segsC.flatten H.size) a) (va_A segsC.flatten H.size))
    (kk : ∀ (r : Nat) (sg : List va_W), post r sg → ∀ (H1 : Heap) (locs1 : List Loc), xW G A s.heap (xPut segs is sg) H1 locs1 → W p l e R s m args below meth c H1 locs1 cells slots Q (F0 m (pc + 3) ls (.ref r :: rest))) : W p l e R s m args below meth c H locs cells slots Q (F0 m pc ls st) := by
  obtain ⟨hP, hD, hF⟩ := hw.part hs hnd
  refine va_callr hr hw.2.2.1 (fun q _ h => hF q h) hF (fun u ra t H1 locs1 ht hvm hp hB hz hk hS => ?_)
  obtain ⟨rfl, hB⟩ := hB
  exact kk u.1 u.2 hp H1 locs1 (hw.back hs hnd hB.2 (by rw [← ht]; exact hB.1) hk hS)
theorem x_cSR {post : Nat → List va_W → Prop} (hC : CtR l y cy maxL ty fr lo As segsC post G Y) (cw : xcS own idx y cy maxL (some ty) n) (is : List Nat)
    (M : XM p m c cc nL s args own) (hK : xK G Y s) (hZ : xZ Y A s s.heap) (hw : xW G A s.heap segs H locs) (hl : ls.size = nL) (hs : is.map (fun i => segs[i]?) = segsC.map some) (hnd : va_nd is = true)
    (hR : fr + 1 ≤ R.frames ∧ 8 + (maxL + 11) + lo ≤ R.locals) (hf : cells ≤ R.cells ∧ slots ≤ R.slots) (hn : As.length = n) (hst : st = As.reverse ++ rest) (hrest : (rest.map fun v => v.category).sum ≤ 8) (hdg : decode cc pc = .ok (.invokestatic idx, 3))
    (kk : ∀ (r : Nat) (sg : List va_W), post r sg → ∀ (H1 : Heap) (locs1 : List Loc), xW G A s.heap (xPut segs is sg) H1 locs1 → W p l e R s m args below meth c H1 locs1 cells slots Q (F0 m (pc + 3) ls (.ref r :: rest))) : W p l e R s m args below meth c H locs cells slots Q (F0 m pc ls st) := by
  have hp := x_preS (As := As) hK hZ hw hs hnd
  exact x_backR hw hs hnd (va_runS M (hC H.size) (va_cwS n M.2.2.2.2 cw.1 rfl rfl rfl cw.2 hR) hp rfl hn hl hst (lv_room hrest) hdg ⟨hf.1, hf.2⟩) kk
/-- a call on a String constant -/
theorem x_cTI {post : Int32 → List va_W → Prop} {i : Nat} (hC : CtI l y cy maxL ty fr lo (.ref (Y (200 + i)) :: As) segsC post G Y) (cw : xcV own idx y cy maxL (some ty) n) (hi : i < 12) (hyc : y.cls = "java/lang/String") (is : List Nat)
    (M : XM p m c cc nL s args own) (hK : xK G Y s) (hZ : xZ Y A s s.heap) (hw : xW G A s.heap segs H locs) (hl : ls.size = nL) (hs : is.map (fun i => segs[i]?) = segsC.map some) (hnd : va_nd is = true)
    (hR : fr + 1 ≤ R.frames ∧ 8 + (maxL + 11) + lo ≤ R.locals) (hf : cells ≤ R.cells ∧ slots ≤ R.slots) (hn : As.length = n) (hst : st = As.reverse ++ .ref (Y (200 + i)) :: rest) (hrest : (rest.map fun v => v.category).sum ≤ 8) (hdg : decode cc pc = .ok (.invokevirtual idx, 3))
    (kk : ∀ (r : Int32) (sg : List va_W), post r sg → ∀ (H1 : Heap) (locs1 : List Loc), xW G A s.heap (xPut segs is sg) H1 locs1 → W p l e R s m args below meth c H1 locs1 cells slots Q (F0 m (pc + 3) ls (.int r :: rest))) : W p l e R s m args below meth c H locs cells slots Q (F0 m pc ls st) := by
  have hp := x_preS (As := .ref (Y (200 + i)) :: As) hK hZ hw hs hnd
  have hv := vk_recv (i := i) hZ.2.2.1 hi hw.2.2.1
  exact x_backI hw hs hnd (va_runV M (hC H.size) (cwV n M.2.2.2.2 cw.1 rfl rfl rfl ⟨rfl, cw.2⟩ hR) ⟨hp.1, by rw [hyc]; exact hv, hp.2⟩ rfl hn hl hst (lv_room hrest) hdg ⟨hf.1, hf.2⟩) kk
theorem x_ldcS (M : XM p m c cc nL s args own) (hK : xK G Y s) {idx q : Nat} {tx : String} (hm : (own, idx, tx, q) ∈ xStr) (hdg : decode cc pc = .ok (.ldc idx, 2))
    (k : W p l e R s m args below meth c H locs cells slots Q (F0 m (pc + 2) ls (.ref (Y q) :: rest))) : W p l e R s m args below meth c H locs cells slots Q (F0 m pc ls rest) :=
  va_ldcS M.1 M.2.1 M.2.2.2.1 (hK.2.2 _ hm) hdg k
theorem x_compact (M : XM p m c cc nL s args own) (hZ : xZ Y A s s.heap) (hw : xW G A s.heap segs H locs) {idx : Nat} (hlink : Cond.fieldLink own idx "java/lang/String" "COMPACT_STRINGS" "Z" ∈ wB) (hdg : decode cc pc = .ok (.getstatic idx, 3))
    (k : W p l e R s m args below meth c H locs cells slots Q (F0 m (pc + 3) ls (.int (nI 1) :: rest))) : W p l e R s m args below meth c H locs cells slots Q (F0 m pc ls rest) :=
  va_gets M.1 M.2.1 hZ.2.2.2.1 hw.2.2.1 M.2.2.2.1 (M.2.2.2.2 _ hlink) (fun _ h => h) hdg k
theorem x_coder (M : XM p m c cc nL s args own) (hZ : xZ Y A s s.heap) (hw : xW G A s.heap segs H locs) {i idx : Nat} (hi : i < 12) (hlink : Cond.fieldLink own idx "java/lang/String" "coder" "B" ∈ wB) (hdg : decode cc pc = .ok (.getfield idx, 3))
    (k : W p l e R s m args below meth c H locs cells slots Q (F0 m (pc + 3) ls (.int (nI 0) :: rest))) : W p l e R s m args below meth c H locs cells slots Q (F0 m pc ls (.ref (Y (200 + i)) :: rest)) :=
  vk_getf M.1 M.2.1 (hZ.2.2.1.1 i hi).2.1 hw.2.2.1 M.2.2.2.1 (M.2.2.2.2 _ hlink) (fun _ h => h) hdg k
theorem x_sval (M : XM p m c cc nL s args own) (hZ : xZ Y A s s.heap) (hw : xW G A s.heap segs H locs) {i idx : Nat} (hi : i < 12) (hlink : Cond.fieldLink own idx "java/lang/String" "value" "[B" ∈ wB) (hdg : decode cc pc = .ok (.getfield idx, 3))
    (k : W p l e R s m args below meth c H locs cells slots Q (F0 m (pc + 3) ls (.ref (Y (300 + i)) :: rest))) : W p l e R s m args below meth c H locs cells slots Q (F0 m pc ls (.ref (Y (200 + i)) :: rest)) :=
  vk_getf M.1 M.2.1 (hZ.2.2.1.1 i hi).2.2.1 hw.2.2.1 M.2.2.2.1 (M.2.2.2.2 _ hlink) (fun _ h => h) hdg k
theorem x_slen (M : XM p m c cc nL s args own) (hZ : xZ Y A s s.heap) (hw : xW G A s.heap segs H locs) {i : Nat} (hi : i < 12) (hdg : decode cc pc = .ok (.arraylength, 1))
    (k : W p l e R s m args below meth c H locs cells slots Q (F0 m (pc + 1) ls (.int (nI (xLen.getD i 0)) :: rest))) : W p l e R s m args below meth c H locs cells slots Q (F0 m pc ls (.ref (Y (300 + i)) :: rest)) :=
  va_tlen M.1 M.2.1 (hZ.2.2.1.1 i hi).2.2.2 hw.2.2.1 rfl hdg k
theorem x_sbyt (M : XM p m c cc nL s args own) (hZ : xZ Y A s s.heap) (hw : xW G A s.heap segs H locs) {i j : Nat} (hi : i < 12) (hj : j < xLen.getD i 0) (hj2 : j < 2 ^ 31) (hdg : decode cc pc = .ok (.baload, 1))
    (k : W p l e R s m args below meth c H locs cells slots Q (F0 m (pc + 1) ls (.int ((xByt.getD i []).getD j 0) :: rest))) : W p l e R s m args below meth c H locs cells slots Q (F0 m pc ls (.int (nI j) :: .ref (Y (300 + i)) :: rest)) :=
  va_tb M.1 M.2.1 (hZ.2.2.1.1 i hi).2.2.2 hw.2.2.1 (by unfold vp_in; rw [nI_clamp hj2]; rintro (h | h); exact nI_pos hj2 h; omega) (by rw [nI_clamp hj2]) hdg k
end XSTR
/-! what the constants say -/
def lsI (ch : Nat) : Nat := if ch = 115 then 7 else if ch = 98 then 8 else if ch = 118 then 9 else if ch = 113 then 10 else if ch = 119 then 11 else 6
def gsI (ch : Nat) : Nat := if ch = 115 then 1 else if ch = 98 then 2 else if ch = 118 then 3 else if ch = 113 then 4 else if ch = 119 then 5 else 6
def idxC (ch : Nat) : Nat := if ch = 115 then 1 else if ch = 98 then 2 else if ch = 118 then 3 else if ch = 113 then 4 else if ch = 119 then 5 else if ch = 99 then 6 else 0
def chS (i p : Nat) : Nat := ((xByt.getD i []).getD p 0).toInt.toNat
def dgN (ch : Nat) : Nat := xLen.getD (gsI ch) 0
theorem lsI_lt {ch : Nat} : lsI ch < 12 := by unfold lsI; (repeat' split) <;> decide
theorem gsI_lt {ch : Nat} : gsI ch < 12 := by unfold gsI; (repeat' split) <;> decide
theorem lsI_len {ch : Nat} : xLen.getD (lsI ch) 0 = dgN ch := by unfold lsI dgN gsI; (repeat' split) <;> first | rfl | (exfalso; omega)
theorem dgN_le {ch : Nat} : dgN ch ≤ 5 := by unfold dgN gsI; (repeat' split) <;> decide
theorem chS_le : ∀ i, i < 12 → ∀ p, p < 6 → chS i p ≤ 127 := by decide +kernel
theorem chS_v : ∀ i, i < 12 → ∀ p, p < 6 → ((((xByt.getD i []).getD p 0) &&& nI 255).toUInt32 % 65536).toInt32 = nI (chS i p) := by decide +kernel
theorem xLen_le : ∀ i, i < 12 → xLen.getD i 0 ≤ 6 := by decide +kernel
theorem i2b_c : ∀ ch, ch < 256 → ∀ p, p < 6 → ((xByt.getD 0 []).getD p 0 = (nI ch).toInt8.toInt32 ↔ ch = chS 0 p) := by decide +kernel
