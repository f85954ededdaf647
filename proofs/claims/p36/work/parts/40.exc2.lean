/-! methods that throw: contracts of a call that surely throws, and where it is caught -/
abbrev nmX : List String := ["java/lang/RuntimeException", "java/lang/Exception"]
abbrev eIAE : String := "java/lang/IllegalArgumentException"
abbrev eISE : String := "java/lang/IllegalStateException"
abbrev eIOB : String := "java/lang/IndexOutOfBoundsException"
abbrev iRTE : MethodName := ⟨"java/lang/RuntimeException", "<init>", "(Ljava/lang/String;)V"⟩
abbrev iEXC : MethodName := ⟨"java/lang/Exception", "<init>", "(Ljava/lang/String;)V"⟩
abbrev iTHR : MethodName := ⟨"java/lang/Throwable", "<init>", "(Ljava/lang/String;)V"⟩
theorem decl_of {args : Array Value} {s : State} {x : MethodName} {bytes : ByteArray} {maxL : Nat} (h1 : (Cond.instanceMethod x).before args s = true) (h2 : (Cond.code x bytes maxL none).before args s = true) : (Cond.declares x).before args s = true := by
  obtain ⟨obj, methO, hnO, hmO, hstO, habO⟩ := Cond.instanceMethod_spec h1
  obtain ⟨methO', cO, hmO', hcO, hbO, hlO, -, hlockO, -, hsigO⟩ := Cond.code_spec hnO h2
  cases hmO.symm.trans hmO'
  simp only [Cond.before, Cond.holds, Cond.value, hnO, Option.bind_some, hmO]
  simp [hstO, hsigO]
def xThr (own cls : String) (ik ic : Nat) : Prop := Bundle.fit cls = true ∧ (∀ n ∈ nmX, Bundle.fit n = true) ∧ (Cond.instantiable cls 6 ∈ wB) ∧ ∀ w ∈ Cond.classLink own ik cls :: Cond.initialized cls :: vx_atS own ic cls nmX, (w ∈ wB ∨ w ∈ [.castable cls cls, .declares iRTE, .declares iEXC, .declares iTHR]) ∧ vx_ot w = true
theorem xThr_of {own cls : String} {ik ic : Nat} (h1 : Bundle.fit cls = true) (h2 : nmX.all Bundle.fit = true) (h4 : Cond.instantiable cls 6 ∈ wB) (h3 : (Cond.classLink own ik cls :: Cond.initialized cls :: vx_atS own ic cls nmX).all (fun w => ((decide (w ∈ lw_tbl) && goodWord w) || decide (w ∈ [.castable cls cls, .declares iRTE, .declares iEXC, .declares iTHR])) && vx_ot w) = true) : xThr own cls ik ic :=
  ⟨h1, List.all_eq_true.mp h2, h4, fun w hw => by
    have := List.all_eq_true.mp h3 w hw
    simp only [Bool.and_eq_true, Bool.or_eq_true, decide_eq_true_eq] at this
    exact ⟨this.1.imp (fun h => List.mem_filter.mpr h) id, this.2⟩⟩
theorem cast_self {args : Array Value} {s : State} {cls : String} (h : (Cond.instantiable cls 6).before args s = true) : (Cond.castable cls cls).before args s = true := by
  obtain ⟨c, k, hc, -⟩ := Cond.instantiable_spec h
  simp only [Cond.before, Cond.holds, Cond.value, hc]
  simp [va_asg]
theorem xThr.at {own cls : String} {ik ic : Nat} {args : Array Value} {s : State} (h : xThr own cls ik ic) (hts : ∀ w ∈ wB, w.before args s = true) : ∀ w ∈ Cond.classLink own ik cls :: Cond.initialized cls :: vx_atS own ic cls nmX, w.before args s = true := fun w hw => by
  rcases (h.2.2.2 w hw).1 with h1 | h1
  · exact hts w h1
  · simp only [List.mem_cons, List.not_mem_nil, or_false] at h1
    rcases h1 with rfl | rfl | rfl | rfl
    · exact cast_self (hts _ h.2.2.1)
    · exact decl_of (hts _ mw_235) (hts _ mw_236)
    · exact decl_of (hts _ mw_238) (hts _ mw_239)
    · exact decl_of (hts _ mw_241) (hts _ mw_242)
theorem thr_IAE : xThr RX5 eIAE 52 56 := xThr_of (by decide +kernel) (by decide +kernel) mw_190 (by decide +kernel)
theorem thr_ISE : xThr RX5 eISE 63 67 := xThr_of (by decide +kernel) (by decide +kernel) mw_464 (by decide +kernel)
theorem thr_IOB : xThr RX5 eIOB 160 164 := xThr_of (by decide +kernel) (by decide +kernel) mw_694 (by decide +kernel)
def xTX (G : va_G) (segs0 : List va_W) (E : String) (A : Nat → Prop) : String → State → State → Prop := vx_X (fun _ : Unit => True) (fun E' _ t => E' = E ∧ xB G segs0 segs0 t) A
abbrev xRmT (fr lo : Nat) : Room := { frames := fr, cells := 1, slots := 6, locals := lo }
abbrev xNoV (A : Nat → Prop) : Array Value → State → Outcome → State → Prop := va_Qv (fun _ : Unit => False) (fun _ _ => True) A
def CtT (l : Launch) (y : MethodName) (cc : ByteArray) (maxL : Nat) (ret : Option FieldType) (fr lo : Nat) (As : List Value) (segs0 : List va_W) (E : String) (G : va_G) (Y : Nat → Nat) : Prop :=
  ∀ sz, vx_Met l y (.code y cc maxL ret :: wB) (xRmT fr lo) (va_Pc As (xPre G Y segs0 sz)) (xNoV (va_A segs0.flatten sz)) (xTX G segs0 E (va_A segs0.flatten sz)) 1 6 (va_A segs0.flatten sz)
section XTHR
variable {p : Program} {l : Launch} {e : Env} {R : Room} {s : State} {m : MethodId} {args : Array Value} {below : List Frame} {meth : Method} {c : Code} {H : Heap} {locs : List Loc} {Q : State → Prop}
variable {cc : ByteArray} {pc : Nat} {ls : Array Slot} {rest st : List Value} {G : va_G} {Y : Nat → Nat} {A : Nat → Prop} {segs segs0 segsC : List va_W} {own E : String} {nL : Nat} {seg : va_W}
variable {y : MethodName} {cy : ByteArray} {maxL fr lo n idx : Nat} {ret : Option FieldType} {As : List Value}
/-- a method that surely throws: Q is its end -/
theorem x_ofT (hy : plainName y.cls = true) (hlen : (lg_sl As).length ≤ maxL)
    (body : ∀ (p : Program) (e : Env) (s : State) (m : MethodId) (args : Array Value) (below : List Frame) (meth : Method) (c : Code) (A : Nat → Prop) (ls : Array Slot) (Q : State → Prop), XM p m c cc maxL s args y.cls → xK G Y s → xZ Y A s s.heap → xW G A s.heap segs0 s.heap [] → lv_has ls maxL (lv_args 0 As) →
      (∀ x ∈ c.exceptionTable.toList, False) → meth.locks = false → Q = vx_MQ below (xNoV A) (xTX G segs0 E A) args s 1 6 A →
      W p l e (xRmT fr lo) s m args below meth c s.heap [] 0 0 Q (F0 m 0 ls [])) : CtT l y cc maxL ret fr lo As segs0 E G Y := by
  intro sz
  refine vx_ofW (cc := cc) (maxL := maxL) (ret := ret) hy rfl ?_
  intro p e s m args below meth c s₁ B hml htab hv
  obtain ⟨rfl, hsz, hP, hD0, hK, hZ⟩ := hv
  have hts := atoms_spec (ws := _) B.pre
  have hown : s.vm.findClass y.cls = some m.cls := findClass_of_methodNamed B.named
  subst hsz
  rw [lg_entry_eq]
  have M : XM p m c cc maxL s _ y.cls := ⟨B.exec, B.bytes, hml, hown, fun w h => hts w (List.mem_cons_of_mem _ h)⟩
  exact body p e s m _ below meth c (va_A segs0.flatten s.heap.size) _ _ M hK hZ ⟨hP, hD0.self, va_S.rf, fun q h => Or.inr h⟩ (lv_entry As hlen) htab B.notSynchronized rfl
theorem xW.later {H1 : Heap} (hw : xW G A s.heap segs H locs) (hz : H.size ≤ H1.size) (hk : ∀ q : Nat, q < H.size → H1[q]? = H[q]?) : va_P G vwCl segs.flatten H1 := by
  rw [xP_iff]
  intro q hq
  have h1 := xP_iff.mp hw.1 q hq
  exact h1.kept (hk _ h1.lt)
theorem xTX_of {t : State} (hw : xW G A s.heap segs0 H locs) (hz : H.size ≤ t.heap.size) (hk : ∀ q : Nat, q < H.size → t.heap[q]? = H[q]?) : xTX G segs0 E A E s t :=
  ⟨(), trivial, ⟨rfl, hw.later hz hk, rfl⟩, Nat.le_trans hw.2.2.1.1 hz, fun q h1 h2 => by rw [hk q (Nat.lt_of_lt_of_le h1 hw.2.2.1.1)]; exact hw.2.2.1.2.1 q h1 h2⟩
theorem x_throwS {ik ic is q : Nat} {text : String} (hl : l.stackTraces = false) (M : XM p m c cc nL s args own) (hK : xK G Y s) (hZ : xZ Y A s s.heap) (hw : xW G A s.heap segs0 H locs) (hls : ls.size = nL) (htab : ∀ x ∈ c.exceptionTable.toList, False) (hlk : meth.locks = false) (hQ : Q = vx_MQ below (xNoV A) (xTX G segs0 E A) args s 1 6 A)
    (hX : xThr own E ik ic) (hm : (own, is, text, q) ∈ xStr) (d0 : decode cc pc = .ok (.new ik, 3)) (d3 : decode cc (pc + 3) = .ok (.dup, 1)) (d4 : decode cc (pc + 4) = .ok (.ldc is, 2)) (d6 : decode cc (pc + 6) = .ok (.invokespecial ic, 3)) (d9 : decode cc (pc + 9) = .ok (.athrow, 1))
    (hR : 5 < R.frames ∧ 82 ≤ R.locals ∧ 1 ≤ R.cells ∧ 6 ≤ R.slots) : W p l e R s m args below meth c H locs 0 0 Q (F0 m pc ls []) := by
  subst hQ
  have h0 := hX.at M.2.2.2.2
  obtain ⟨h1, h2, -, h3⟩ := hX
  refine vx_throwS (names := nmX) M.1 M.2.1 hl M.2.2.2.1 h1 h2 (h0 _ List.mem_cons_self) (h0 _ (List.mem_cons_of_mem _ List.mem_cons_self)) (hK.2.2 _ hm) (fun w hw => h0 w (List.mem_cons_of_mem _ (List.mem_cons_of_mem _ hw))) (fun w hw => (h3 w hw).2) hZ.1 hZ.2.1 hw.2.2.1 (hls.trans M.2.2.1.symm) d0 d3 d4 d6 d9 (fun x hx => (htab x hx).elim) (by show 2 + 3 < _; omega) (by show 0 + (13 * (2 + 1) + 43) ≤ _; omega) (by omega) (by omega) hlk ?_ hw.2.2.1.2.2 (Nat.le_refl _) (Nat.le_refl _)
  intro t _ hz hk
  exact xTX_of hw hz hk
theorem x_throwSW {ik ic is q : Nat} {text : String} (hl : l.stackTraces = false) (M : XM p m c cc nL s args own) (hK : xK G Y s) (hZ : xZ Y A s s.heap) (hw : xW G A s.heap segs0 H locs) (hls : ls.size = nL) (htab : ∀ x ∈ c.exceptionTable.toList, False) (hlk : meth.locks = false) (hQ : Q = vx_MQ below (xNoV A) (xTX G segs0 E A) args s 1 6 A)
    (hX : xThr own E ik ic) (hm : (own, is, text, q) ∈ xStr) (d0 : decode cc pc = .ok (.new ik, 3)) (d3 : decode cc (pc + 3) = .ok (.dup, 1)) (d4 : decode cc (pc + 4) = .ok (.ldc_w is, 3)) (d6 : decode cc (pc + 7) = .ok (.invokespecial ic, 3)) (d9 : decode cc (pc + 10) = .ok (.athrow, 1))
    (hR : 5 < R.frames ∧ 82 ≤ R.locals ∧ 1 ≤ R.cells ∧ 6 ≤ R.slots) : W p l e R s m args below meth c H locs 0 0 Q (F0 m pc ls []) := by
  subst hQ
  have h0 := hX.at M.2.2.2.2
  obtain ⟨h1, h2, -, h3⟩ := hX
  refine vx_throwSW (names := nmX) M.1 M.2.1 hl M.2.2.2.1 h1 h2 (h0 _ List.mem_cons_self) (h0 _ (List.mem_cons_of_mem _ List.mem_cons_self)) (hK.2.2 _ hm) (fun w hw => h0 w (List.mem_cons_of_mem _ (List.mem_cons_of_mem _ hw))) (fun w hw => (h3 w hw).2) hZ.1 hZ.2.1 hw.2.2.1 (hls.trans M.2.2.1.symm) d0 d3 d4 d6 d9 (fun x hx => (htab x hx).elim) (by show 2 + 3 < _; omega) (by show 0 + (13 * (2 + 1) + 43) ≤ _; omega) (by omega) (by omega) hlk ?_ hw.2.2.1.2.2 (Nat.le_refl _) (Nat.le_refl _)
  intro t _ hz hk
  exact xTX_of hw hz hk
theorem xPut_same : ∀ {is : List Nat} {sc : List va_W}, is.map (fun i => segs[i]?) = sc.map some → xPut segs is sc = segs := by
  intro is
  induction is with
  | nil => intro sc _; simp [xPut]
  | cons i r ih =>
    intro sc h
    cases sc with
    | nil => simp at h
    | cons x xs =>
      simp only [List.map_cons, List.cons.injEq] at h
      have e : segs.set i x = segs := by
        obtain ⟨hi, ex⟩ := List.getElem?_eq_some_iff.mp h.1
        rw [← ex]; exact List.set_getElem_self hi
      show xPut (segs.set i x) r xs = segs
      rw [e]
      exact ih h.2
/-- a call that surely throws, what it throws goes on -/
theorem x_out (hC : vx_Run p l e R s m args below meth c H locs 0 0 1 6 (F0 m pc ls st) rest ((xNoV (va_A segsC.flatten H.size)) (As.toArray)) (xTX G segsC E (va_A segsC.flatten H.size)) (va_A segsC.flatten H.size)) (is : List Nat) (hw : xW G A s.heap segs0 H locs) (hs : is.map (fun i => segs0[i]?) = segsC.map some) (hnd : va_nd is = true) (htab : ∀ x ∈ c.exceptionTable.toList, False) (hlk : meth.locks = false) (hQ : Q = vx_MQ below (xNoV A) (xTX G segs0 E A) args s 1 6 A) : W p l e R s m args below meth c H locs 0 0 Q (F0 m pc ls st) := by
  subst hQ
  obtain ⟨hP, hD, hF⟩ := hw.part hs hnd
  refine vx_callv hC hw.2.2.1 (fun q _ h => hF q h) hF (fun q _ h => hF q h) ?_ (fun u t H1 locs1 _ _ hp => hp.elim)
  intro E' ce q9 u t H1 locs1 ht _ _ hB hz hk hS hcell hv hcl
  obtain ⟨rfl, hB⟩ := hB
  have hw1 := hw.back hs hnd hB.2 (by rw [← ht]; exact hB.1) hk hS
  rw [xPut_same hs] at hw1
  refine vx_out (fun x hx => (htab x hx).elim) hlk hcell hv hcl (fun t1 h1 _ => ?_) hw1.2.2.1.2.2 (by decide) (by decide)
  exact ⟨(), trivial, ⟨rfl, by rw [h1]; exact hw1.1, rfl⟩, hw1.2.2.1.F h1⟩
theorem x_cVT {b : Nat} (hC : CtT l y cy maxL ret fr lo (.ref b :: As) segsC E G Y) (cw : xcV own idx y cy maxL ret n) (is : List Nat) (ri rj : Nat) {ci : Nat} {fs : List Value}
    (M : XM p m c cc nL s args own) (hK : xK G Y s) (hZ : xZ Y A s s.heap) (hw : xW G A s.heap segs0 H locs) (hl : ls.size = nL) (hs : is.map (fun i => segs0[i]?) = segsC.map some) (hnd : va_nd is = true)
    (hrs : segs0[ri]? = some seg) (hre : seg[rj]? = some (b, .inr (ci, fs))) (hrc : (vwCl[ci]?).map (fun q => q.1) = some y.cls)
    (hR : fr + 1 ≤ R.frames ∧ 8 + (maxL + 11) + lo ≤ R.locals) (hf : 1 ≤ R.cells ∧ 6 ≤ R.slots) (hn : As.length = n) (hst : st = As.reverse ++ .ref b :: rest) (hrest : (rest.map fun v => v.category).sum ≤ 8) (hdg : decode cc pc = .ok (.invokevirtual idx, 3))
    (htab : ∀ x ∈ c.exceptionTable.toList, False) (hlk : meth.locks = false) (hQ : Q = vx_MQ below (xNoV A) (xTX G segs0 E A) args s 1 6 A) : W p l e R s m args below meth c H locs 0 0 Q (F0 m pc ls st) := by
  have hp := x_preS (As := .ref b :: As) hK hZ hw hs hnd
  exact x_out (As := .ref b :: As) (rest := rest) (vx_runV M (hC H.size) (cwV n M.2.2.2.2 cw.1 rfl rfl rfl ⟨rfl, cw.2⟩ hR) ⟨hp.1, x_recv hK hw ri rj hrs hre hrc, hp.2⟩ rfl hn hl hst (lv_room hrest) hdg (by omega)) is hw hs hnd htab hlk hQ
theorem x_cST (hC : CtT l y cy maxL ret fr lo As segsC E G Y) (cw : xcS own idx y cy maxL ret n) (is : List Nat)
    (M : XM p m c cc nL s args own) (hK : xK G Y s) (hZ : xZ Y A s s.heap) (hw : xW G A s.heap segs0 H locs) (hl : ls.size = nL) (hs : is.map (fun i => segs0[i]?) = segsC.map some) (hnd : va_nd is = true)
    (hR : fr + 1 ≤ R.frames ∧ 8 + (maxL + 11) + lo ≤ R.locals) (hf : 1 ≤ R.cells ∧ 6 ≤ R.slots) (hn : As.length = n) (hst : st = As.reverse ++ rest) (hrest : (rest.map fun v => v.category).sum ≤ 8) (hdg : decode cc pc = .ok (.invokestatic idx, 3))
    (htab : ∀ x ∈ c.exceptionTable.toList, False) (hlk : meth.locks = false) (hQ : Q = vx_MQ below (xNoV A) (xTX G segs0 E A) args s 1 6 A) : W p l e R s m args below meth c H locs 0 0 Q (F0 m pc ls st) := by
  have hp := x_preS (As := As) hK hZ hw hs hnd
  exact x_out (As := As) (rest := rest) (vx_runS M (hC H.size) (va_cwS n M.2.2.2.2 cw.1 rfl rfl rfl cw.2 hR) hp rfl hn hl hst (lv_room hrest) hdg (by omega)) is hw hs hnd htab hlk hQ
end XTHR
