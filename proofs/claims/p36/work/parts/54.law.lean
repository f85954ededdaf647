/-! the law's wrappers: calls whose throws are caught -/
def outS (Y : Nat → Nat) (q : Nat) (f : Nat → Int64) : va_W := [(q, .inl (Y 3, 1, .inr (.inl f)))]
def xN (U : State) : Prop := va_Nc eIAE eIOB U ∧ va_Nc eISE eIOB U ∧ va_Nc eISE eIAE U
theorem xN.moved {u U : State} (hvm : u.vm.Alike U.vm) (h : xN u) : xN U := ⟨va_Nc.moved hvm h.1, va_Nc.moved hvm h.2.1, va_Nc.moved hvm h.2.2⟩
def xPreN (G : va_G) (Y : Nat → Nat) (segs0 : List va_W) (sz : Nat) (U : State) : Prop := xPre G Y segs0 sz U ∧ xN U
theorem x_blindN {As : List Value} {G : va_G} {Y : Nat → Nat} {sc : List va_W} {sz : Nat} : FrameBlind (va_Pc As (xPreN G Y sc sz)) := fun a U g mk q => by
  obtain ⟨q0, q1, q2⟩ := q
  obtain ⟨r0, r1⟩ := x_blind (As := As) (G := G) (Y := Y) (sc := sc) (sz := sz) a U g mk ⟨q0, q1⟩
  exact ⟨r0, r1, q2.moved (U := U.calling g mk a) (Vm.Alike.refl U.vm)⟩
def CtL (l : Launch) (y : MethodName) (cc : ByteArray) (maxL : Nat) (hh : List (Nat × Nat × Nat × Nat)) (fr lo : Nat) (As : List Value) (segs0 : List va_W) (post : Int32 → List va_W → Prop) (G : va_G) (Y : Nat → Nat) : Prop :=
  ∀ sz, Met l y (.codeWith y cc maxL (some .int) hh :: wB) (xRmT fr lo) (va_Pc As (xPreN G Y segs0 sz)) (va_Qi post (xB G segs0) (va_A segs0.flatten sz)) 1 6 (va_A segs0.flatten sz)
section XLAW
variable {p : Program} {l : Launch} {e : Env} {R : Room} {s : State} {m : MethodId} {args : Array Value} {below : List Frame} {meth : Method} {c : Code} {H : Heap} {locs : List Loc} {cells slots : Nat} {Q : State → Prop}
variable {cc : ByteArray} {pc : Nat} {ls : Array Slot} {rest st : List Value} {G : va_G} {Y : Nat → Nat} {A : Nat → Prop} {segs segs0 segsC : List va_W} {own E : String} {nL : Nat} {seg : va_W}
variable {y : MethodName} {cy : ByteArray} {maxL fr lo n idx : Nat} {ret : Option FieldType} {ty : FieldType} {As : List Value} {hh : List (Nat × Nat × Nat × Nat)}
theorem W_widen {g : JFrame} {k n : Nat} (h1 : cells ≤ k) (h2 : slots ≤ n) (kk : W p l e R s m args below meth c H locs k n Q g) : W p l e R s m args below meth c H locs cells slots Q g := fun T hT X => kk T hT (stand_widen X h1 h2)
theorem x_ofL {post : Int32 → List va_W → Prop} (hy : plainName y.cls = true) (hlen : (lg_sl As).length ≤ maxL)
    (body : ∀ (p : Program) (e : Env) (s : State) (m : MethodId) (args : Array Value) (below : List Frame) (meth : Method) (c : Code) (A : Nat → Prop) (ls : Array Slot) (Q : State → Prop), XM p m c cc maxL s args y.cls → xK G Y s → xZ Y A s s.heap → xN s → xW G A s.heap segs0 s.heap [] → lv_has ls maxL (lv_args 0 As) → c.exceptionTable.toList = tableOf hh →
      (∀ (H : Heap) (locs : List Loc) (sg : List va_W) (r : Int32) (pc : Nat) (ls : Array Slot) (cells slots : Nat), cells ≤ 1 → slots ≤ 6 → decode cc pc = .ok (.ireturn, 1) → xW G A s.heap sg H locs → sg.map ads = segs0.map ads → post r sg → W p l e (xRmT fr lo) s m args below meth c H locs cells slots Q (F0 m pc ls [.int r])) →
      W p l e (xRmT fr lo) s m args below meth c s.heap [] 0 0 Q (F0 m 0 ls [])) : CtL l y cc maxL hh fr lo As segs0 post G Y := by
  intro sz
  refine va_MetW (cc := cc) (maxL := maxL) (ret := some .int) (hh := hh) hy rfl ?_
  intro p e s m args below meth c s₁ B hml hv
  obtain ⟨rfl, ⟨hsz, hP, hD0, hK, hZ⟩, hN⟩ := hv
  have hts := atoms_spec (ws := _) B.pre
  have hown : s.vm.findClass y.cls = some m.cls := findClass_of_methodNamed B.named
  subst hsz
  rw [lg_entry_eq]
  have M : XM p m c cc maxL s _ y.cls := ⟨B.exec, B.bytes, hml, hown, fun w h => hts w (List.mem_cons_of_mem _ h)⟩
  refine body p e s m _ below meth c (va_A segs0.flatten s.heap.size) _ _ M hK hZ hN ⟨hP, hD0.self, va_S.rf, fun q h => Or.inr h⟩ (lv_entry As hlen) (vx_table (x := y) B (hts _ List.mem_cons_self)) ?_
  intro H locs sg r pc ls cells slots h1 h2 hd hw he hp
  exact W_widen h1 h2 (x_iret M B.returns B.notSynchronized hw hd rfl he hp)
/-- a call that surely throws, and it is caught here -/
theorem x_catchV {b ri rj : Nat} {pre suf : List ExceptionTableEntry} {xh : ExceptionTableEntry} {nm : String} (hC : CtT l y cy maxL ret fr lo (.ref b :: As) segsC E G Y) (cw : xcV own idx y cy maxL ret n) (is : List Nat) {ci : Nat} {fs : List Value}
    (M : XM p m c cc nL s args own) (hK : xK G Y s) (hZ : xZ Y A s s.heap) (hw : xW G A s.heap segs0 H locs) (hl : ls.size = nL) (hs : is.map (fun i => segs0[i]?) = segsC.map some) (hnd : va_nd is = true)
    (hrs : segs0[ri]? = some seg) (hre : seg[rj]? = some (b, .inr (ci, fs))) (hrc : (vwCl[ci]?).map (fun q => q.1) = some y.cls)
    (hR : fr + 1 ≤ R.frames ∧ 8 + (maxL + 11) + lo ≤ R.locals) (hf : 1 ≤ R.cells ∧ 6 ≤ R.slots) (hn : As.length = n) (hst : st = As.reverse ++ .ref b :: rest) (hrest : (rest.map fun v => v.category).sum ≤ 8) (hdg : decode cc pc = .ok (.invokevirtual idx, 3))
    (hsplit : c.exceptionTable.toList = pre ++ xh :: suf) (hpass : ∀ z ∈ pre, covers z pc = false ∨ (z.catchType ≠ 0 ∧ ∃ nm : String, (Cond.classLink own z.catchType nm) ∈ wB ∧ va_Nc E nm s)) (hx : covers xh pc = true) (h0 : xh.catchType ≠ 0)
    (hlink : Cond.classLink own xh.catchType nm ∈ wB) (hcast : (Cond.castable E nm).before args s = true)
    (kk : ∀ (q : Nat) (H1 : Heap) (locs1 : List Loc), xW G A s.heap segs0 H1 locs1 → W p l e R s m args below meth c H1 locs1 1 6 Q (F0 m xh.handlerPc ls [.ref q])) : W p l e R s m args below meth c H locs 0 0 Q (F0 m pc ls st) := by
  have hp := x_preS (As := .ref b :: As) hK hZ hw hs hnd
  have hC : vx_Run p l e R s m args below meth c H locs 0 0 1 6 (F0 m pc ls st) rest ((xNoV (va_A segsC.flatten H.size)) ((Value.ref b :: As).toArray)) (xTX G segsC E (va_A segsC.flatten H.size)) (va_A segsC.flatten H.size) := vx_runV M (hC H.size) (cwV n M.2.2.2.2 cw.1 rfl rfl rfl ⟨rfl, cw.2⟩ hR) ⟨hp.1, x_recv hK hw ri rj hrs hre hrc, hp.2⟩ rfl hn hl hst (lv_room hrest) hdg (by omega)
  obtain ⟨hP, hD, hF⟩ := hw.part hs hnd
  refine vx_callv hC hw.2.2.1 (fun q _ h => hF q h) hF (fun q _ h => hF q h) ?_ (fun u t H1 locs1 _ _ hp => hp.elim)
  intro E' ce q9 u t H1 locs1 ht _ _ hB hz hk hS hcell hv hcl
  obtain ⟨rfl, hB⟩ := hB
  have hw1 := hw.back hs hnd hB.2 (by rw [← ht]; exact hB.1) hk hS
  rw [xPut_same hs] at hw1
  exact vx_catch M.2.2.2.1 pre xh suf hsplit (fun z hz => (hpass z hz).imp id (fun ⟨a, nm, h1, h2⟩ => ⟨a, nm, M.2.2.2.2 _ h1, h2⟩)) hx h0 (M.2.2.2.2 _ hlink) hcast hcell hv hcl (kk q9 H1 locs1 hw1)
/-- a call that comes back with an int, and what its segments' addresses are -/
theorem x_cVI2 {post : Int32 → List va_W → Prop} {b : Nat} (hC : CtI l y cy maxL ty fr lo (.ref b :: As) segsC post G Y) (cw : xcV own idx y cy maxL (some ty) n) (is : List Nat) (ri rj : Nat) {ci : Nat} {fs : List Value}
    (M : XM p m c cc nL s args own) (hK : xK G Y s) (hZ : xZ Y A s s.heap) (hw : xW G A s.heap segs H locs) (hl : ls.size = nL) (hs : is.map (fun i => segs[i]?) = segsC.map some) (hnd : va_nd is = true)
    (hrs : segs[ri]? = some seg) (hre : seg[rj]? = some (b, .inr (ci, fs))) (hrc : (vwCl[ci]?).map (fun q => q.1) = some y.cls)
    (hR : fr + 1 ≤ R.frames ∧ 8 + (maxL + 11) + lo ≤ R.locals) (hf : cells ≤ R.cells ∧ slots ≤ R.slots) (hn : As.length = n) (hst : st = As.reverse ++ .ref b :: rest) (hrest : (rest.map fun v => v.category).sum ≤ 8) (hdg : decode cc pc = .ok (.invokevirtual idx, 3))
    (kk : ∀ (r : Int32) (sg : List va_W), post r sg → sg.map ads = segsC.map ads → ∀ (H1 : Heap) (locs1 : List Loc), xW G A s.heap (xPut segs is sg) H1 locs1 → W p l e R s m args below meth c H1 locs1 cells slots Q (F0 m (pc + 3) ls (.int r :: rest))) : W p l e R s m args below meth c H locs cells slots Q (F0 m pc ls st) := by
  have hp := x_preS (As := .ref b :: As) hK hZ hw hs hnd
  have hr : va_Run p l e R s m args below meth c H locs cells slots 0 0 (F0 m pc ls st) rest (va_Qi post (xB G segsC) (va_A segsC.flatten H.size) ((Value.ref b :: As).toArray)) (va_A segsC.flatten H.size) := va_runV M (hC H.size) (cwV n M.2.2.2.2 cw.1 rfl rfl rfl ⟨rfl, cw.2⟩ hR) ⟨hp.1, x_recv hK hw ri rj hrs hre hrc, hp.2⟩ rfl hn hl hst (lv_room hrest) hdg ⟨hf.1, hf.2⟩
  obtain ⟨hP, hD, hF⟩ := hw.part hs hnd
  refine va_calli hr hw.2.2.1 (fun q _ h => hF q h) hF (fun r u t H1 locs1 ht hvm hp hB hz hk hS => ?_)
  exact kk r u hp hB.2 H1 locs1 (hw.back hs hnd hB.2 (by rw [← ht]; exact hB.1) hk hS)
/-- a static call of a wrapper -/
theorem x_cSL {post : Int32 → List va_W → Prop} (hC : CtL l y cy maxL hh fr lo As segsC post G Y) (cw : GoodIn wB (va_wsS own idx y (.codeWith y cy maxL (some .int) hh :: wB)) ∧ y.cls ≠ "java/lang/invoke/MethodHandle" ∧ y.cls ≠ "java/lang/invoke/VarHandle" ∧ (parseMethodDescriptor y.desc).map (fun d => d.parameters.length) = some n) (is : List Nat)
    (M : XM p m c cc nL s args own) (hK : xK G Y s) (hZ : xZ Y A s s.heap) (hN : xN s) (hw : xW G A s.heap segs H locs) (hl : ls.size = nL) (hs : is.map (fun i => segs[i]?) = segsC.map some) (hnd : va_nd is = true)
    (hR : fr + 1 ≤ R.frames ∧ 8 + (maxL + 11) + lo ≤ R.locals) (hf : cells + 1 ≤ R.cells ∧ slots + 6 ≤ R.slots) (hn : As.length = n) (hst : st = As.reverse ++ rest) (hrest : (rest.map fun v => v.category).sum ≤ 8) (hdg : decode cc pc = .ok (.invokestatic idx, 3))
    (kk : ∀ (r : Int32) (sg : List va_W), post r sg → ∀ (H1 : Heap) (locs1 : List Loc), xW G A s.heap (xPut segs is sg) H1 locs1 → W p l e R s m args below meth c H1 locs1 (cells + 1) (slots + 6) Q (F0 m (pc + 3) ls (.int r :: rest))) : W p l e R s m args below meth c H locs cells slots Q (F0 m pc ls st) := by
  have hp0 := x_preS (As := As) hK hZ hw hs hnd
  have hp : PreS s H (va_Pc As (xPreN G Y segsC H.size)) As := ⟨x_blindN, fun U hU hW => ⟨(hp0.2 U hU hW).1, (hp0.2 U hU hW).2, hN.moved hW.alike⟩⟩
  have hr : va_Run p l e R s m args below meth c H locs cells slots 1 6 (F0 m pc ls st) rest (va_Qi post (xB G segsC) (va_A segsC.flatten H.size) (As.toArray)) (va_A segsC.flatten H.size) := vx_runSW M (hC H.size) (vx_cwSW n M.2.2.2.2 cw.1 rfl rfl rfl cw.2 hR) hp rfl hn hl hst (lv_room hrest) hdg ⟨hf.1, hf.2⟩
  obtain ⟨hP, hD, hF⟩ := hw.part hs hnd
  refine va_calli hr hw.2.2.1 (fun q _ h => hF q h) hF (fun r u t H1 locs1 ht hvm hp hB hz hk hS => ?_)
  exact kk r u hp H1 locs1 (hw.back hs hnd hB.2 (by rw [← ht]; exact hB.1) hk hS)
end XLAW
/-- all segments but the first -/
def tailI (n : Nat) : List Nat := (List.range n).map (· + 1)
theorem tailI_get {o : va_W} {sc : List va_W} : (tailI sc.length).map (fun i => (o :: sc)[i]?) = sc.map some := by
  unfold tailI
  rw [List.map_map]
  apply List.ext_getElem?
  intro k
  simp only [List.getElem?_map, List.getElem?_range', List.getElem?_range]
  by_cases h : k < sc.length
  · simp [h]
  · simp [h, List.getElem?_eq_none (Nat.le_of_not_lt h)]
theorem va_nd_of : ∀ {l : List Nat}, l.Nodup → va_nd l = true
  | [], _ => rfl
  | a :: l, h => by
    obtain ⟨h1, h2⟩ := List.nodup_cons.mp h
    show (decide (a ∉ l) && va_nd l) = true
    rw [va_nd_of h2, decide_eq_true h1]; rfl
theorem tailI_nd {n : Nat} : va_nd (tailI n) = true := by
  refine va_nd_of ?_
  unfold tailI
  refine List.Pairwise.map _ (fun a b h => ?_) List.nodup_range
  omega
theorem xPut_tail {o : va_W} {sc sg : List va_W} (h : sg.map ads = sc.map ads) : xPut (o :: sc) (tailI sc.length) sg = o :: sg := by
  have hl : sg.length = sc.length := by simpa using congrArg List.length h
  have gen : ∀ (sg sc : List va_W) (pre : List va_W), sg.length = sc.length → xPut (pre ++ sc) ((List.range sc.length).map (· + pre.length)) sg = pre ++ sg := by
    intro sg
    induction sg with
    | nil => intro sc pre h; have : sc = [] := List.length_eq_zero_iff.mp h.symm; subst this; rfl
    | cons x xs ih =>
      intro sc pre h
      cases sc with
      | nil => simp at h
      | cons y ys =>
        have h2 : xs.length = ys.length := by simpa using h
        have e1 : (List.range (y :: ys).length).map (· + pre.length) = pre.length :: ((List.range ys.length).map (· + (pre ++ [x]).length)) := by
          rw [List.length_cons, List.range_succ_eq_map]
          simp only [List.map_cons, List.map_map, Nat.zero_add, List.length_append, List.length_singleton]
          congr 1
          apply List.map_congr_left
          intro a _
          simp only [Function.comp]
          omega
        rw [e1]
        show xPut ((pre ++ y :: ys).set pre.length x) _ xs = _
        have e2 : (pre ++ y :: ys).set pre.length x = (pre ++ [x]) ++ ys := by
          rw [List.set_append_right _ _ (Nat.le_refl _)]
          simp
        rw [e2, ih ys (pre ++ [x]) h2]
        simp
  exact gen sg sc [o] hl
theorem xcL_of {own : String} {idx n maxL : Nat} {y : MethodName} {cy : ByteArray} {hh : List (Nat × Nat × Nat × Nat)} (h1 : Cond.methodLink own idx y ∈ wB) (h2 : Cond.static y ∈ wB) (h4 : Cond.initialized y.cls ∈ wB) (h5 : Cond.codeWith y cy maxL (some .int) hh ∈ wB) (h6 : y.cls ≠ "java/lang/invoke/MethodHandle" ∧ y.cls ≠ "java/lang/invoke/VarHandle") (h7 : (parseMethodDescriptor y.desc).map (fun d => d.parameters.length) = some n) : GoodIn wB (va_wsS own idx y (.codeWith y cy maxL (some .int) hh :: wB)) ∧ y.cls ≠ "java/lang/invoke/MethodHandle" ∧ y.cls ≠ "java/lang/invoke/VarHandle" ∧ (parseMethodDescriptor y.desc).map (fun d => d.parameters.length) = some n := by
  refine ⟨fun w h => ?_, h6.1, h6.2, h7⟩
  rcases List.mem_append.mp h with h | h
  · simp only [List.mem_cons, List.not_mem_nil, or_false] at h
    rcases h with rfl | rfl | rfl
    · exact gB h1
    · exact gB h2
    · exact gB h4
  · rcases List.mem_cons.mp h with rfl | h
    · exact gB h5
    · exact gB h
