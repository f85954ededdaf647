/-! the law's own methods: contracts with a bounded number of new cells -/
abbrev xRmG (fr lo mc ms : Nat) : Room := { frames := fr, cells := mc, slots := ms, locals := lo }
def CtG (l : Launch) (y : MethodName) (cc : ByteArray) (maxL : Nat) (ty : FieldType) (fr lo mc ms : Nat) (As : List Value) (segs0 : List va_W) (post : Int32 → List va_W → Prop) (G : va_G) (Y : Nat → Nat) : Prop :=
  ∀ sz, Met l y (.code y cc maxL (some ty) :: wB) (xRmG fr lo mc ms) (va_Pc As (xPreN G Y segs0 sz)) (va_Qi post (xB G segs0) (va_A segs0.flatten sz)) mc ms (va_A segs0.flatten sz)
theorem allI_get {sc : List va_W} : (List.range sc.length).map (fun i => sc[i]?) = sc.map some := by
  apply List.ext_getElem?
  intro k
  simp only [List.getElem?_map, List.getElem?_range]
  by_cases h : k < sc.length
  · simp [h]
  · simp [h, List.getElem?_eq_none (Nat.le_of_not_lt h)]
theorem allI_nd {n : Nat} : va_nd (List.range n) = true := va_nd_of List.nodup_range
theorem xPut_pre : ∀ (sg sc : List va_W) (pre : List va_W), sg.length = sc.length → xPut (pre ++ sc) ((List.range sc.length).map (· + pre.length)) sg = pre ++ sg := by
  intro sg
  induction sg with
  | nil => intro sc pre h; have : sc = [] := List.length_eq_zero_iff.mp h.symm; subst this; rfl
  | cons x xs ih =>
    intro sc pre h
    cases sc with
    | nil => simp at h
    | cons y ys =>
      have h2 : xs.length = ys.length := by simpa using h
      have e1 : (List.range (y :: ys).length).map (· + pre.length) = pre.length :: ((List.range ys.length).map (· + (pre ++ [x]).length)) := by
        rw [List.length_cons, List.range_succ_eq_map]
        simp only [List.map_cons, List.map_map, Nat.zero_add, List.length_append, List.length_singleton]
        congr 1
        apply List.map_congr_left
        intro a _
        simp only [Function.comp]
        omega
      rw [e1]
      show xPut ((pre ++ y :: ys).set pre.length x) _ xs = _
      have e2 : (pre ++ y :: ys).set pre.length x = (pre ++ [x]) ++ ys := by
        rw [List.set_append_right _ _ (Nat.le_refl _)]
        simp
      rw [e2, ih ys (pre ++ [x]) h2]
      simp
theorem xPut_all {sc sg : List va_W} (h : sg.map ads = sc.map ads) : xPut sc (List.range sc.length) sg = sg := by
  have := xPut_pre sg sc [] (by simpa using congrArg List.length h)
  simpa using this
section XLAWG
variable {p : Program} {l : Launch} {e : Env} {R : Room} {s : State} {m : MethodId} {args : Array Value} {below : List Frame} {meth : Method} {c : Code} {H : Heap} {locs : List Loc} {cells slots : Nat} {Q : State → Prop}
variable {cc : ByteArray} {pc : Nat} {ls : Array Slot} {rest st : List Value} {G : va_G} {Y : Nat → Nat} {A : Nat → Prop} {segs segs0 segsC : List va_W} {own E : String} {nL : Nat} {seg : va_W}
variable {y : MethodName} {cy : ByteArray} {maxL fr lo mc ms n idx : Nat} {ret : Option FieldType} {ty : FieldType} {As : List Value} {hh : List (Nat × Nat × Nat × Nat)}
theorem x_ofG {post : Int32 → List va_W → Prop} (hy : plainName y.cls = true) (hlen : (lg_sl As).length ≤ maxL)
    (body : ∀ (p : Program) (e : Env) (s : State) (m : MethodId) (args : Array Value) (below : List Frame) (meth : Method) (c : Code) (A : Nat → Prop) (ls : Array Slot) (Q : State → Prop), XM p m c cc maxL s args y.cls → xK G Y s → xZ Y A s s.heap → xN s → xW G A s.heap segs0 s.heap [] → lv_has ls maxL (lv_args 0 As) →
      (∀ (H : Heap) (locs : List Loc) (sg : List va_W) (r : Int32) (pc : Nat) (ls : Array Slot) (cells slots : Nat), cells ≤ mc → slots ≤ ms → decode cc pc = .ok (.ireturn, 1) → xW G A s.heap sg H locs → narrow ty (.int r) = .int r → sg.map ads = segs0.map ads → post r sg → W p l e (xRmG fr lo mc ms) s m args below meth c H locs cells slots Q (F0 m pc ls [.int r])) →
      W p l e (xRmG fr lo mc ms) s m args below meth c s.heap [] 0 0 Q (F0 m 0 ls [])) : CtG l y cc maxL ty fr lo mc ms As segs0 post G Y := by
  intro sz
  refine Met.ofW (cc := cc) (maxL := maxL) (ret := some ty) hy rfl ?_
  intro p e s m args below meth c s₁ B hml hv
  obtain ⟨rfl, ⟨hsz, hP, hD0, hK, hZ⟩, hN⟩ := hv
  have hts := atoms_spec (ws := _) B.pre
  have hown : s.vm.findClass y.cls = some m.cls := findClass_of_methodNamed B.named
  subst hsz
  rw [lg_entry_eq]
  have M : XM p m c cc maxL s _ y.cls := ⟨B.exec, B.bytes, hml, hown, fun w h => hts w (List.mem_cons_of_mem _ h)⟩
  refine body p e s m _ below meth c (va_A segs0.flatten s.heap.size) _ _ M hK hZ hN ⟨hP, hD0.self, va_S.rf, fun q h => Or.inr h⟩ (lv_entry As hlen) ?_
  intro H locs sg r pc ls cells slots h1 h2 hd hw hn he hp
  exact W_widen h1 h2 (x_iret M B.returns B.notSynchronized hw hd hn he hp)
/-- a static call of one of the law's methods -/
theorem x_cSG {post : Int32 → List va_W → Prop} (hC : CtG l y cy maxL ty fr lo mc ms As segsC post G Y) (cw : xcS own idx y cy maxL (some ty) n) (is : List Nat)
    (M : XM p m c cc nL s args own) (hK : xK G Y s) (hZ : xZ Y A s s.heap) (hN : xN s) (hw : xW G A s.heap segs H locs) (hl : ls.size = nL) (hs : is.map (fun i => segs[i]?) = segsC.map some) (hnd : va_nd is = true)
    (hR : fr + 1 ≤ R.frames ∧ 8 + (maxL + 11) + lo ≤ R.locals) (hf : cells + mc ≤ R.cells ∧ slots + ms ≤ R.slots) (hn : As.length = n) (hst : st = As.reverse ++ rest) (hrest : (rest.map fun v => v.category).sum ≤ 8) (hdg : decode cc pc = .ok (.invokestatic idx, 3))
    (kk : ∀ (r : Int32) (sg : List va_W), post r sg → sg.map ads = segsC.map ads → ∀ (H1 : Heap) (locs1 : List Loc), xW G A s.heap (xPut segs is sg) H1 locs1 → W p l e R s m args below meth c H1 locs1 (cells + mc) (slots + ms) Q (F0 m (pc + 3) ls (.int r :: rest))) : W p l e R s m args below meth c H locs cells slots Q (F0 m pc ls st) := by
  have hp0 := x_preS (As := As) hK hZ hw hs hnd
  have hp : PreS s H (va_Pc As (xPreN G Y segsC H.size)) As := ⟨x_blindN, fun U hU hW => ⟨(hp0.2 U hU hW).1, (hp0.2 U hU hW).2, hN.moved hW.alike⟩⟩
  have hr : va_Run p l e R s m args below meth c H locs cells slots mc ms (F0 m pc ls st) rest (va_Qi post (xB G segsC) (va_A segsC.flatten H.size) (As.toArray)) (va_A segsC.flatten H.size) := va_runS M (hC H.size) (va_cwS n M.2.2.2.2 cw.1 rfl rfl rfl cw.2 hR) hp rfl hn hl hst (lv_room hrest) hdg ⟨hf.1, hf.2⟩
  obtain ⟨hP, hD, hF⟩ := hw.part hs hnd
  refine va_calli hr hw.2.2.1 (fun q _ h => hF q h) hF (fun r u t H1 locs1 ht hvm hp hB hz hk hS => ?_)
  exact kk r u hp hB.2 H1 locs1 (hw.back hs hnd hB.2 (by rw [← ht]; exact hB.1) hk hS)
/-- the same of a wrapper, with its segments' addresses -/
theorem x_cSL2 {post : Int32 → List va_W → Prop} (hC : CtL l y cy maxL hh fr lo As segsC post G Y) (cw : GoodIn wB (va_wsS own idx y (.codeWith y cy maxL (some .int) hh :: wB)) ∧ y.cls ≠ "java/lang/invoke/MethodHandle" ∧ y.cls ≠ "java/lang/invoke/VarHandle" ∧ (parseMethodDescriptor y.desc).map (fun d => d.parameters.length) = some n) (is : List Nat)
    (M : XM p m c cc nL s args own) (hK : xK G Y s) (hZ : xZ Y A s s.heap) (hN : xN s) (hw : xW G A s.heap segs H locs) (hl : ls.size = nL) (hs : is.map (fun i => segs[i]?) = segsC.map some) (hnd : va_nd is = true)
    (hR : fr + 1 ≤ R.frames ∧ 8 + (maxL + 11) + lo ≤ R.locals) (hf : cells + 1 ≤ R.cells ∧ slots + 6 ≤ R.slots) (hn : As.length = n) (hst : st = As.reverse ++ rest) (hrest : (rest.map fun v => v.category).sum ≤ 8) (hdg : decode cc pc = .ok (.invokestatic idx, 3))
    (kk : ∀ (r : Int32) (sg : List va_W), post r sg → sg.map ads = segsC.map ads → ∀ (H1 : Heap) (locs1 : List Loc), xW G A s.heap (xPut segs is sg) H1 locs1 → W p l e R s m args below meth c H1 locs1 (cells + 1) (slots + 6) Q (F0 m (pc + 3) ls (.int r :: rest))) : W p l e R s m args below meth c H locs cells slots Q (F0 m pc ls st) := by
  have hp0 := x_preS (As := As) hK hZ hw hs hnd
  have hp : PreS s H (va_Pc As (xPreN G Y segsC H.size)) As := ⟨x_blindN, fun U hU hW => ⟨(hp0.2 U hU hW).1, (hp0.2 U hU hW).2, hN.moved hW.alike⟩⟩
  have hr : va_Run p l e R s m args below meth c H locs cells slots 1 6 (F0 m pc ls st) rest (va_Qi post (xB G segsC) (va_A segsC.flatten H.size) (As.toArray)) (va_A segsC.flatten H.size) := vx_runSW M (hC H.size) (vx_cwSW n M.2.2.2.2 cw.1 rfl rfl rfl cw.2 hR) hp rfl hn hl hst (lv_room hrest) hdg ⟨hf.1, hf.2⟩
  obtain ⟨hP, hD, hF⟩ := hw.part hs hnd
  refine va_calli hr hw.2.2.1 (fun q _ h => hF q h) hF (fun r u t H1 locs1 ht hvm hp hB hz hk hS => ?_)
  exact kk r u hp hB.2 H1 locs1 (hw.back hs hnd hB.2 (by rw [← ht]; exact hB.1) hk hS)
end XLAWG
