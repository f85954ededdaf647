/-! contracts over worlds in segments, and calls -/
def xB (G : va_G) (segs0 sg : List va_W) (t : State) : Prop := va_P G vwCl sg.flatten t.heap ∧ sg.map ads = segs0.map ads
def xPre (G : va_G) (Y : Nat → Nat) (segs0 : List va_W) (sz : Nat) (U : State) : Prop := U.heap.size = sz ∧ va_P G vwCl segs0.flatten U.heap ∧ va_D (fun _ => True) segs0.flatten ∧ xK G Y U ∧ xZ Y (va_A segs0.flatten sz) U U.heap
abbrev xRm (fr lo : Nat) : Room := { frames := fr, cells := 0, slots := 0, locals := lo }
def CtI (l : Launch) (y : MethodName) (cc : ByteArray) (maxL : Nat) (ty : FieldType) (fr lo : Nat) (As : List Value) (segs0 : List va_W) (post : Int32 → List va_W → Prop) (G : va_G) (Y : Nat → Nat) : Prop :=
  ∀ sz, Met l y (.code y cc maxL (some ty) :: wB) (xRm fr lo) (va_Pc As (xPre G Y segs0 sz)) (va_Qi post (xB G segs0) (va_A segs0.flatten sz)) 0 0 (va_A segs0.flatten sz)
def CtV (l : Launch) (y : MethodName) (cc : ByteArray) (maxL : Nat) (fr lo : Nat) (As : List Value) (segs0 : List va_W) (post : List va_W → Prop) (G : va_G) (Y : Nat → Nat) : Prop :=
  ∀ sz, Met l y (.code y cc maxL none :: wB) (xRm fr lo) (va_Pc As (xPre G Y segs0 sz)) (va_Qv post (xB G segs0) (va_A segs0.flatten sz)) 0 0 (va_A segs0.flatten sz)
theorem x_blind {As : List Value} {G : va_G} {Y : Nat → Nat} {sc : List va_W} {sz : Nat} : FrameBlind (va_Pc As (xPre G Y sc sz)) := fun a U g mk q => by
  obtain ⟨q0, q1, q2, q3, q4, q5⟩ := q
  exact ⟨q0, q1, q2, q3, xK.same (u := U) (U := U.calling g mk a) rfl q4, xZ.moved (u := U) (U := U.calling g mk a) (Vm.Alike.refl U.vm) q5⟩
section XCALLS
variable {p : Program} {l : Launch} {e : Env} {R : Room} {s : State} {m : MethodId} {args : Array Value} {below : List Frame} {meth : Method} {c : Code} {H : Heap} {locs : List Loc} {cells slots : Nat} {Q : State → Prop}
variable {cc : ByteArray} {pc : Nat} {ls : Array Slot} {rest st : List Value} {G : va_G} {Y : Nat → Nat} {A : Nat → Prop} {H0 : Heap} {segs segs0 segsC : List va_W} {own : String} {nL : Nat} {seg : va_W}
variable {y : MethodName} {cy : ByteArray} {maxL fr lo n idx : Nat} {ty : FieldType} {As : List Value}
theorem x_iret {post : Int32 → List va_W → Prop} {sg : List va_W} (M : XM p m c cc nL s args own) (hr : meth.sig.returnType = some ty) (hlk : meth.locks = false) (hw : xW G A s.heap sg H locs) {r : Int32} (hdg : decode cc pc = .ok (.ireturn, 1)) (hn : narrow ty (.int r) = .int r) (he : sg.map ads = segs0.map ads) (hp : post r sg) : W p l e R s m args below meth c H locs cells slots (MQ below (va_Qi post (xB G segs0) A) args s cells slots A) (F0 m pc ls [.int r]) :=
  W.zret M.1 M.2.1 hr hn (fun t ht _ => ⟨⟨r, sg, rfl, hp, by rw [ht]; exact hw.1, he⟩, hw.2.2.1.F ht⟩) hw.2.2.1.2.2 hdg hlk
theorem x_vret {post : List va_W → Prop} {sg : List va_W} (M : XM p m c cc nL s args own) (hr : meth.sig.returnType = none) (hlk : meth.locks = false) (hw : xW G A s.heap sg H locs) (hdg : decode cc pc = .ok (.return_, 1)) (he : sg.map ads = segs0.map ads) (hp : post sg) : W p l e R s m args below meth c H locs cells slots (MQ below (va_Qv post (xB G segs0) A) args s cells slots A) (F0 m pc ls []) :=
  W.vret M.1 M.2.1 hr (fun t ht _ => ⟨⟨sg, rfl, hp, by rw [ht]; exact hw.1, he⟩, hw.2.2.1.F ht⟩) hw.2.2.1.2.2 hdg hlk
theorem x_ofI {post : Int32 → List va_W → Prop} (hy : plainName y.cls = true) (hlen : (lg_sl As).length ≤ maxL)
    (body : ∀ (p : Program) (e : Env) (s : State) (m : MethodId) (args : Array Value) (below : List Frame) (meth : Method) (c : Code) (A : Nat → Prop) (ls : Array Slot) (Q : State → Prop), XM p m c cc maxL s args y.cls → xK G Y s → xZ Y A s s.heap → xW G A s.heap segs0 s.heap [] → lv_has ls maxL (lv_args 0 As) →
      (∀ (H : Heap) (locs : List Loc) (sg : List va_W) (r : Int32) (pc : Nat) (ls : Array Slot), decode cc pc = .ok (.ireturn, 1) → xW G A s.heap sg H locs → narrow ty (.int r) = .int r → sg.map ads = segs0.map ads → post r sg → W p l e (xRm fr lo) s m args below meth c H locs 0 0 Q (F0 m pc ls [.int r])) →
      W p l e (xRm fr lo) s m args below meth c s.heap [] 0 0 Q (F0 m 0 ls [])) : CtI l y cc maxL ty fr lo As segs0 post G Y := by
  intro sz
  refine Met.ofW (cc := cc) (maxL := maxL) (ret := some ty) hy rfl ?_
  intro p e s m args below meth c s₁ B hml hv
  obtain ⟨rfl, hsz, hP, hD0, hK, hZ⟩ := hv
  have hts := atoms_spec (ws := _) B.pre
  have hown : s.vm.findClass y.cls = some m.cls := findClass_of_methodNamed B.named
  subst hsz
  rw [lg_entry_eq]
  have M : XM p m c cc maxL s _ y.cls := ⟨B.exec, B.bytes, hml, hown, fun w h => hts w (List.mem_cons_of_mem _ h)⟩
  exact body p e s m _ below meth c (va_A segs0.flatten s.heap.size) _ _ M hK hZ ⟨hP, hD0.self, va_S.rf, fun q h => Or.inr h⟩ (lv_entry As hlen)
    (fun H locs sg r pc ls hd hw hn he hp => x_iret M B.returns B.notSynchronized hw hd hn he hp)
theorem x_ofV {post : List va_W → Prop} (hy : plainName y.cls = true) (hlen : (lg_sl As).length ≤ maxL)
    (body : ∀ (p : Program) (e : Env) (s : State) (m : MethodId) (args : Array Value) (below : List Frame) (meth : Method) (c : Code) (A : Nat → Prop) (ls : Array Slot) (Q : State → Prop), XM p m c cc maxL s args y.cls → xK G Y s → xZ Y A s s.heap → xW G A s.heap segs0 s.heap [] → lv_has ls maxL (lv_args 0 As) →
      (∀ (H : Heap) (locs : List Loc) (sg : List va_W) (pc : Nat) (ls : Array Slot), decode cc pc = .ok (.return_, 1) → xW G A s.heap sg H locs → sg.map ads = segs0.map ads → post sg → W p l e (xRm fr lo) s m args below meth c H locs 0 0 Q (F0 m pc ls [])) →
      W p l e (xRm fr lo) s m args below meth c s.heap [] 0 0 Q (F0 m 0 ls [])) : CtV l y cc maxL fr lo As segs0 post G Y := by
  intro sz
  refine Met.ofW (cc := cc) (maxL := maxL) (ret := none) hy rfl ?_
  intro p e s m args below meth c s₁ B hml hv
  obtain ⟨rfl, hsz, hP, hD0, hK, hZ⟩ := hv
  have hts := atoms_spec (ws := _) B.pre
  have hown : s.vm.findClass y.cls = some m.cls := findClass_of_methodNamed B.named
  subst hsz
  rw [lg_entry_eq]
  have M : XM p m c cc maxL s _ y.cls := ⟨B.exec, B.bytes, hml, hown, fun w h => hts w (List.mem_cons_of_mem _ h)⟩
  exact body p e s m _ below meth c (va_A segs0.flatten s.heap.size) _ _ M hK hZ ⟨hP, hD0.self, va_S.rf, fun q h => Or.inr h⟩ (lv_entry As hlen)
    (fun H locs sg pc ls hd hw he hp => x_vret M B.returns B.notSynchronized hw hd he hp)
/-- what stands at a call -/
theorem x_preS {is : List Nat} (hK : xK G Y s) (hZ : xZ Y A s s.heap) (hw : xW G A s.heap segs H locs) (hs : is.map (fun i => segs[i]?) = segsC.map some) (hnd : va_nd is = true) : PreS s H (va_Pc As (xPre G Y segsC H.size)) As := by
  obtain ⟨hP, hD, hF⟩ := hw.part hs hnd
  refine ⟨x_blind, fun U hU hW => ⟨rfl, by rw [hU], by rw [hU]; exact hP, hD.weaken (fun _ _ _ _ => trivial), xK.warm hW hK, ?_⟩⟩
  have h1 : xZ Y A s H := hZ.kept (fun a h1 h2 => hw.2.2.1.2.1 a h1 h2)
  rw [hU]
  exact (h1.narrow hF).moved hW.alike
theorem x_recv (hK : xK G Y s) (hw : xW G A s.heap segs H locs) (i j : Nat) {b ci : Nat} {fs : List Value} {C : String} (hs : segs[i]? = some seg) (he : seg[j]? = some (b, .inr (ci, fs))) (hc : (vwCl[ci]?).map (fun q => q.1) = some C) : ∃ cellB : Cell, H[b]? = some cellB ∧ cellB.vm.isStatics = false ∧ s.vm.findClass C = some cellB.cls := by
  cases h : vwCl[ci]? with
  | none => rw [h] at hc; cases hc
  | some q => rw [h] at hc; cases hc; exact va_recv hK.1 (hw.seg hs) (ci := ci) (q0 := j) h he
theorem x_backI {post : Int32 → List va_W → Prop} {is : List Nat} {a : Array Value} (hw : xW G A s.heap segs H locs) (hs : is.map (fun i => segs[i]?) = segsC.map some) (hnd : va_nd is = true)
    (hr : va_Run p l e R s m args below meth c H locs cells slots 0 0 (F0 m pc ls st) rest (va_Qi post (xB G segsC) (va_A segsC.flatten H.size) a) (va_A segsC.flatten H.size))
    (kk : ∀ (r : Int32) (sg : List va_W), post r sg → ∀ (H1 : Heap) (locs1 : List Loc), xW G A s.heap (xPut segs is sg) H1 locs1 → W p l e R s m args below meth c H1 locs1 cells slots Q (F0 m (pc + 3) ls (.int r :: rest))) : W p l e R s m args below meth c H locs cells slots Q (F0 m pc ls st) := by
  obtain ⟨hP, hD, hF⟩ := hw.part hs hnd
  refine va_calli hr hw.2.2.1 (fun q _ h => hF q h) hF (fun r u t H1 locs1 ht hvm hp hB hz hk hS => ?_)
  refine kk r u hp H1 locs1 (hw.back hs hnd hB.2 (by rw [← ht]; exact hB.1) hk hS)
theorem x_backV {post : List va_W → Prop} {is : List Nat} {a : Array Value} (hw : xW G A s.heap segs H locs) (hs : is.map (fun i => segs[i]?) = segsC.map some) (hnd : va_nd is = true)
    (hr : va_Run p l e R s m args below meth c H locs cells slots 0 0 (F0 m pc ls st) rest (va_Qv post (xB G segsC) (va_A segsC.flatten H.size) a) (va_A segsC.flatten H.size))
    (kk : ∀ (sg : List va_W), post sg → ∀ (H1 : Heap) (locs1 : List Loc), xW G A s.heap (xPut segs is sg) H1 locs1 → W p l e R s m args below meth c H1 locs1 cells slots Q (F0 m (pc + 3) ls rest)) : W p l e R s m args below meth c H locs cells slots Q (F0 m pc ls st) := by
  obtain ⟨hP, hD, hF⟩ := hw.part hs hnd
  refine va_callv hr hw.2.2.1 (fun q _ h => hF q h) hF (fun u t H1 locs1 ht hvm hp hB hz hk hS => ?_)
  refine kk u hp H1 locs1 (hw.back hs hnd hB.2 (by rw [← ht]; exact hB.1) hk hS)
/-- the words of a call -/
def xcV (own : String) (idx : Nat) (y : MethodName) (cy : ByteArray) (maxL : Nat) (ret : Option FieldType) (n : Nat) : Prop := GoodIn wB (wsV own idx y.cls y (.code y cy maxL ret :: wB)) ∧ y.cls ≠ "java/lang/invoke/MethodHandle" ∧ y.cls ≠ "java/lang/invoke/VarHandle" ∧ (parseMethodDescriptor y.desc).map (fun d => d.parameters.length) = some n
def xcS (own : String) (idx : Nat) (y : MethodName) (cy : ByteArray) (maxL : Nat) (ret : Option FieldType) (n : Nat) : Prop := GoodIn wB (va_wsS own idx y (.code y cy maxL ret :: wB)) ∧ y.cls ≠ "java/lang/invoke/MethodHandle" ∧ y.cls ≠ "java/lang/invoke/VarHandle" ∧ (parseMethodDescriptor y.desc).map (fun d => d.parameters.length) = some n
def xcN (own : String) (idx : Nat) (y : MethodName) (host : String) (cy : ByteArray) (maxL : Nat) (ret : Option FieldType) (n : Nat) : Prop := GoodIn wB (.code y cy maxL ret :: wB) ∧ Cond.static y ∈ wB ∧ Cond.initialized y.cls ∈ wB ∧ (own, idx, y, host) ∈ xNest ∧ y.cls ≠ "java/lang/invoke/MethodHandle" ∧ y.cls ≠ "java/lang/invoke/VarHandle" ∧ (parseMethodDescriptor y.desc).map (fun d => d.parameters.length) = some n
theorem gB {w : Cond} (h : w ∈ wB) : w ∈ wB ∧ ((w.onTables && w.keeps) = true ∨ ∃ ty, w = .arrayClass ty) := ⟨h, good_of_word (List.mem_filter.mp h).2⟩
theorem xcV_of {ret : Option FieldType} (h1 : Cond.methodLink own idx y ∈ wB) (h2 : Cond.instanceMethod y ∈ wB) (h3 : Cond.selects y.cls y y ∈ wB) (h4 : Cond.initialized y.cls ∈ wB) (h5 : Cond.code y cy maxL ret ∈ wB) (h6 : y.cls ≠ "java/lang/invoke/MethodHandle" ∧ y.cls ≠ "java/lang/invoke/VarHandle") (h7 : (parseMethodDescriptor y.desc).map (fun d => d.parameters.length) = some n) : xcV own idx y cy maxL ret n := by
  refine ⟨fun w h => ?_, h6.1, h6.2, h7⟩
  rcases List.mem_append.mp h with h | h
  · simp only [List.mem_cons, List.not_mem_nil, or_false] at h
    rcases h with rfl | rfl | rfl | rfl
    · exact gB h1
    · exact gB h2
    · exact gB h3
    · exact gB h4
  · rcases List.mem_cons.mp h with rfl | h
    · exact gB h5
    · exact gB h
theorem xcS_of {ret : Option FieldType} (h1 : Cond.methodLink own idx y ∈ wB) (h2 : Cond.static y ∈ wB) (h4 : Cond.initialized y.cls ∈ wB) (h5 : Cond.code y cy maxL ret ∈ wB) (h6 : y.cls ≠ "java/lang/invoke/MethodHandle" ∧ y.cls ≠ "java/lang/invoke/VarHandle") (h7 : (parseMethodDescriptor y.desc).map (fun d => d.parameters.length) = some n) : xcS own idx y cy maxL ret n := by
  refine ⟨fun w h => ?_, h6.1, h6.2, h7⟩
  rcases List.mem_append.mp h with h | h
  · simp only [List.mem_cons, List.not_mem_nil, or_false] at h
    rcases h with rfl | rfl | rfl
    · exact gB h1
    · exact gB h2
    · exact gB h4
  · rcases List.mem_cons.mp h with rfl | h
    · exact gB h5
    · exact gB h
theorem xcN_of {ret : Option FieldType} {host : String} (h1 : (own, idx, y, host) ∈ xNest) (h2 : Cond.static y ∈ wB) (h4 : Cond.initialized y.cls ∈ wB) (h5 : Cond.code y cy maxL ret ∈ wB) (h6 : y.cls ≠ "java/lang/invoke/MethodHandle" ∧ y.cls ≠ "java/lang/invoke/VarHandle") (h7 : (parseMethodDescriptor y.desc).map (fun d => d.parameters.length) = some n) : xcN own idx y host cy maxL ret n := by
  refine ⟨fun w h => ?_, h2, h4, h1, h6.1, h6.2, h7⟩
  rcases List.mem_cons.mp h with rfl | h
  · exact gB h5
  · exact gB h
/-- calls by a name (invokevirtual), static ones, static ones of a nest mate -/
theorem x_cVI {post : Int32 → List va_W → Prop} {b : Nat} (hC : CtI l y cy maxL ty fr lo (.ref b :: As) segsC post G Y) (cw : xcV own idx y cy maxL (some ty) n) (is : List Nat) (ri rj : Nat) {ci : Nat} {fs : List Value}
    (M : XM p m c cc nL s args own) (hK : xK G Y s) (hZ : xZ Y A s s.heap) (hw : xW G A s.heap segs H locs) (hl : ls.size = nL) (hs : is.map (fun i => segs[i]?) = segsC.map some) (hnd : va_nd is = true)
    (hrs : segs[ri]? = some seg) (hre : seg[rj]? = some (b, .inr (ci, fs))) (hrc : (vwCl[ci]?).map (fun q => q.1) = some y.cls)
    (hR : fr + 1 ≤ R.frames ∧ 8 + (maxL + 11) + lo ≤ R.locals) (hf : cells ≤ R.cells ∧ slots ≤ R.slots) (hn : As.length = n) (hst : st = As.reverse ++ .ref b :: rest) (hrest : (rest.map fun v => v.category).sum ≤ 8) (hdg : decode cc pc = .ok (.invokevirtual idx, 3))
    (kk : ∀ (r : Int32) (sg : List va_W), post r sg → ∀ (H1 : Heap) (locs1 : List Loc), xW G A s.heap (xPut segs is sg) H1 locs1 → W p l e R s m args below meth c H1 locs1 cells slots Q (F0 m (pc + 3) ls (.int r :: rest))) : W p l e R s m args below meth c H locs cells slots Q (F0 m pc ls st) := by
  have hp := x_preS (As := .ref b :: As) hK hZ hw hs hnd
  exact x_backI hw hs hnd (va_runV M (hC H.size) (cwV n M.2.2.2.2 cw.1 rfl rfl rfl ⟨rfl, cw.2⟩ hR) ⟨hp.1, x_recv hK hw ri rj hrs hre hrc, hp.2⟩ rfl hn hl hst (lv_room hrest) hdg ⟨hf.1, hf.2⟩) kk
theorem x_cVV {post : List va_W → Prop} {b : Nat} (hC : CtV l y cy maxL fr lo (.ref b :: As) segsC post G Y) (cw : xcV own idx y cy maxL none n) (is : List Nat) (ri rj : Nat) {ci : Nat} {fs : List Value}
    (M : XM p m c cc nL s args own) (hK : xK G Y s) (hZ : xZ Y A s s.heap) (hw : xW G A s.heap segs H locs) (hl : ls.size = nL) (hs : is.map (fun i => segs[i]?) = segsC.map some) (hnd : va_nd is = true)
    (hrs : segs[ri]? = some seg) (hre : seg[rj]? = some (b, .inr (ci, fs))) (hrc : (vwCl[ci]?).map (fun q => q.1) = some y.cls)
    (hR : fr + 1 ≤ R.frames ∧ 8 + (maxL + 11) + lo ≤ R.locals) (hf : cells ≤ R.cells ∧ slots ≤ R.slots) (hn : As.length = n) (hst : st = As.reverse ++ .ref b :: rest) (hrest : (rest.map fun v => v.category).sum ≤ 8) (hdg : decode cc pc = .ok (.invokevirtual idx, 3))
    (kk : ∀ (sg : List va_W), post sg → ∀ (H1 : Heap) (locs1 : List Loc), xW G A s.heap (xPut segs is sg) H1 locs1 → W p l e R s m args below meth c H1 locs1 cells slots Q (F0 m (pc + 3) ls rest)) : W p l e R s m args below meth c H locs cells slots Q (F0 m pc ls st) := by
  have hp := x_preS (As := .ref b :: As) hK hZ hw hs hnd
  exact x_backV hw hs hnd (va_runV M (hC H.size) (cwV n M.2.2.2.2 cw.1 rfl rfl rfl ⟨rfl, cw.2⟩ hR) ⟨hp.1, x_recv hK hw ri rj hrs hre hrc, hp.2⟩ rfl hn hl hst (lv_room hrest) hdg ⟨hf.1, hf.2⟩) kk
theorem x_cSI {post : Int32 → List va_W → Prop} (hC : CtI l y cy maxL ty fr lo As segsC post G Y) (cw : xcS own idx y cy maxL (some ty) n) (is : List Nat)
    (M : XM p m c cc nL s args own) (hK : xK G Y s) (hZ : xZ Y A s s.heap) (hw : xW G A s.heap segs H locs) (hl : ls.size = nL) (hs : is.map (fun i => segs[i]?) = segsC.map some) (hnd : va_nd is = true)
    (hR : fr + 1 ≤ R.frames ∧ 8 + (maxL + 11) + lo ≤ R.locals) (hf : cells ≤ R.cells ∧ slots ≤ R.slots) (hn : As.length = n) (hst : st = As.reverse ++ rest) (hrest : (rest.map fun v => v.category).sum ≤ 8) (hdg : decode cc pc = .ok (.invokestatic idx, 3))
    (kk : ∀ (r : Int32) (sg : List va_W), post r sg → ∀ (H1 : Heap) (locs1 : List Loc), xW G A s.heap (xPut segs is sg) H1 locs1 → W p l e R s m args below meth c H1 locs1 cells slots Q (F0 m (pc + 3) ls (.int r :: rest))) : W p l e R s m args below meth c H locs cells slots Q (F0 m pc ls st) := by
  have hp := x_preS (As := As) hK hZ hw hs hnd
  exact x_backI hw hs hnd (va_runS M (hC H.size) (va_cwS n M.2.2.2.2 cw.1 rfl rfl rfl cw.2 hR) hp rfl hn hl hst (lv_room hrest) hdg ⟨hf.1, hf.2⟩) kk
theorem x_cSV {post : List va_W → Prop} (hC : CtV l y cy maxL fr lo As segsC post G Y) (cw : xcS own idx y cy maxL none n) (is : List Nat)
    (M : XM p m c cc nL s args own) (hK : xK G Y s) (hZ : xZ Y A s s.heap) (hw : xW G A s.heap segs H locs) (hl : ls.size = nL) (hs : is.map (fun i => segs[i]?) = segsC.map some) (hnd : va_nd is = true)
    (hR : fr + 1 ≤ R.frames ∧ 8 + (maxL + 11) + lo ≤ R.locals) (hf : cells ≤ R.cells ∧ slots ≤ R.slots) (hn : As.length = n) (hst : st = As.reverse ++ rest) (hrest : (rest.map fun v => v.category).sum ≤ 8) (hdg : decode cc pc = .ok (.invokestatic idx, 3))
    (kk : ∀ (sg : List va_W), post sg → ∀ (H1 : Heap) (locs1 : List Loc), xW G A s.heap (xPut segs is sg) H1 locs1 → W p l e R s m args below meth c H1 locs1 cells slots Q (F0 m (pc + 3) ls rest)) : W p l e R s m args below meth c H locs cells slots Q (F0 m pc ls st) := by
  have hp := x_preS (As := As) hK hZ hw hs hnd
  exact x_backV hw hs hnd (va_runS M (hC H.size) (va_cwS n M.2.2.2.2 cw.1 rfl rfl rfl cw.2 hR) hp rfl hn hl hst (lv_room hrest) hdg ⟨hf.1, hf.2⟩) kk
theorem x_cNI {post : Int32 → List va_W → Prop} {host : String} (hC : CtI l y cy maxL ty fr lo As segsC post G Y) (cw : xcN own idx y host cy maxL (some ty) n) (is : List Nat)
    (M : XM p m c cc nL s args own) (hK : xK G Y s) (hZ : xZ Y A s s.heap) (hw : xW G A s.heap segs H locs) (hl : ls.size = nL) (hs : is.map (fun i => segs[i]?) = segsC.map some) (hnd : va_nd is = true)
    (hR : fr + 1 ≤ R.frames ∧ 8 + (maxL + 11) + lo ≤ R.locals) (hf : cells ≤ R.cells ∧ slots ≤ R.slots) (hn : As.length = n) (hst : st = As.reverse ++ rest) (hrest : (rest.map fun v => v.category).sum ≤ 8) (hdg : decode cc pc = .ok (.invokestatic idx, 3))
    (kk : ∀ (r : Int32) (sg : List va_W), post r sg → ∀ (H1 : Heap) (locs1 : List Loc), xW G A s.heap (xPut segs is sg) H1 locs1 → W p l e R s m args below meth c H1 locs1 cells slots Q (F0 m (pc + 3) ls (.int r :: rest))) : W p l e R s m args below meth c H locs cells slots Q (F0 m pc ls st) := by
  have hp := x_preS (As := As) hK hZ hw hs hnd
  obtain ⟨g1, g2, g3, g4, g5⟩ := cw
  exact x_backI hw hs hnd (va_runSN M (hC H.size) ⟨va_cnB n M.2.2.2.2 g1 rfl rfl rfl (hK.2.1 _ g4) (M.2.2.2.2 _ g3) g5 hR, M.2.2.2.2 _ g2, trivial⟩ hp rfl hn hl hst (lv_room hrest) hdg ⟨hf.1, hf.2⟩) kk
theorem x_min (M : XM p m c cc nL s args own) (hl : ls.size = nL) (hlink : Cond.methodLink own idx Lib.Math.min.name ∈ wB) (hstat : Cond.static Lib.Math.min.name ∈ wB) (hini : Cond.initialized "java/lang/Math" ∈ wB) (hcode : Cond.code Lib.Math.min.name Lib.Math.min.code 2 (some .int) ∈ wB) (hR : 1 ≤ R.frames ∧ 21 ≤ R.locals) (hf : cells ≤ R.cells ∧ slots ≤ R.slots) (hrest : (rest.map fun v => v.category).sum ≤ 8) {a b : Nat} (ha : a < 2 ^ 31) (hb : b < 2 ^ 31) (hdg : decode cc pc = .ok (.invokestatic idx, 3))
    (kk : W p l e R s m args below meth c H locs cells slots Q (F0 m (pc + 3) ls (.int (nI (min a b)) :: rest))) : W p l e R s m args below meth c H locs cells slots Q (F0 m pc ls (.int (nI b) :: .int (nI a) :: rest)) := by
  obtain ⟨hx, hbb, hml, hown, hts⟩ := M
  refine va_mmin hx hbb (hml.trans hl.symm) hown (hts _ hlink) (hts _ hstat) (hts _ hini) (hts _ hcode) hR.1 (by omega) hf.1 hf.2 hdg ?_
  have : (if nI b < nI a then nI b else nI a) = nI (min a b) := by
    by_cases h : b < a
    · rw [if_pos ((nI_ltI hb ha).mpr h), Nat.min_eq_right (Nat.le_of_lt h)]
    · rw [if_neg (fun z => h ((nI_ltI hb ha).mp z)), Nat.min_eq_left (Nat.not_lt.mp h)]
  rw [this]
  exact kk
end XCALLS
