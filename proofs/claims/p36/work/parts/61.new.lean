/-! cells that are made: arrays, objects, and what makes them whole -/
theorem xW.push {G : va_G} {A : Nat → Prop} {H0 H H1 : Heap} {segs : List va_W} {locs : List Loc} (h : xW G A H0 segs H locs) {e : va_E} (hz : H1.size = H.size + 1) (hk : ∀ q, q < H.size → H1[q]? = H[q]?) (hat : va_at G vwCl (H.size, e) H1) : xW G A H0 (segs ++ [[(H.size, e)]]) H1 locs := by
  obtain ⟨h1, h2, h3, h4⟩ := h
  have hf : (segs ++ [[(H.size, e)]]).flatten = segs.flatten ++ [(H.size, e)] := by simp
  refine ⟨?_, ?_, ⟨Nat.le_trans h3.1 (by omega), fun q a b => (hk q (Nat.lt_of_lt_of_le a h3.1)).trans (h3.2.1 q a b), h3.2.2⟩, h4⟩
  · rw [hf, xP_iff]
    intro q hq
    rcases List.mem_append.mp hq with hq | hq
    · have := xP_iff.mp h1 q hq
      exact this.kept (hk _ this.lt)
    · obtain rfl := List.mem_singleton.mp hq
      exact hat
  · rw [hf]
    exact va_D.push h2 h1 rfl (h4 _ h3.1)
/-- segments that a call has made, in the place of the cell that it was given -/
theorem xW.app {G : va_G} {A : Nat → Prop} {H0 H H1 : Heap} {segs sg : List va_W} {locs locs1 : List Loc} {h : Nat} {x : va_E} (hw : xW G A H0 (segs ++ [[(h, x)]]) H locs) (hz : H.size = h + 1) (h0 : H0.size ≤ h) (hk : ∀ q, q < h → H1[q]? = H[q]?) (hP : va_P G vwCl sg.flatten H1) (hD : va_D (fun q => h ≤ q) sg.flatten) (hS : va_S A H0 H1 locs1) : xW G A H0 (segs ++ sg) H1 locs1 := by
  obtain ⟨h1, h2, h3, h4⟩ := hw
  have hf : (segs ++ [[(h, x)]]).flatten = segs.flatten ++ [(h, x)] := by simp
  rw [hf] at h1 h2
  have hd := xD_iff.mp h2
  have hlt : ∀ q ∈ segs.flatten, q.1 < h := by
    intro q hq
    have a := (xP_iff.mp h1 q (List.mem_append_left _ hq)).lt
    have b : q.1 ≠ h := by
      intro e
      have n := hd.1
      rw [show ads (segs.flatten ++ [(h, x)]) = ads segs.flatten ++ [h] by simp [ads]] at n
      exact (List.nodup_append.mp n).2.2 q.1 (List.mem_map.mpr ⟨q, hq, rfl⟩) h (List.mem_singleton.mpr rfl) e
    omega
  refine ⟨?_, ?_, hS, h4⟩
  · rw [List.flatten_append, xP_iff]
    intro q hq
    rcases List.mem_append.mp hq with hq | hq
    · exact (xP_iff.mp h1 q (List.mem_append_left _ hq)).kept (hk _ (hlt q hq))
    · exact xP_iff.mp hP q hq
  · rw [List.flatten_append]
    refine va_D.app ?_ (hD.weaken (fun _ _ _ z => h4 _ (Nat.le_trans h0 z))) ?_
    · refine xD_iff.mpr ⟨?_, fun a ha => ?_⟩
      · have n := hd.1
        rw [show ads (segs.flatten ++ [(h, x)]) = ads segs.flatten ++ [h] by simp [ads]] at n
        exact (List.nodup_append.mp n).1
      · obtain ⟨q, hq, rfl⟩ := List.mem_map.mp ha
        exact hd.2 _ (List.mem_map.mpr ⟨q, List.mem_append_left _ hq, rfl⟩)
    · intro i j p q hi hj e
      have a := hlt p (List.mem_of_getElem? hi)
      have b := hD.2 j q hj
      simp only at b
      omega
section XNEW
variable {p : Program} {l : Launch} {e : Env} {R : Room} {s : State} {m : MethodId} {args : Array Value} {below : List Frame} {meth : Method} {c : Code} {H : Heap} {locs : List Loc} {cells slots : Nat} {Q : State → Prop}
variable {cc : ByteArray} {pc : Nat} {ls : Array Slot} {rest st : List Value} {G : va_G} {Y : Nat → Nat} {A : Nat → Prop} {segs segs0 segsC : List va_W} {own : String} {nL : Nat} {seg : va_W}
variable {y : MethodName} {cy : ByteArray} {maxL fr lo n idx k z : Nat} {ret : Option FieldType} {As : List Value}
/-- the heap has no more cells than were counted -/
theorem W_size {g : JFrame} (hge : s.heap.size + cells ≤ H.size) (kk : H.size = s.heap.size + cells → W p l e R s m args below meth c H locs cells slots Q g) : W p l e R s m args below meth c H locs cells slots Q g := by
  intro T hT X
  have h := X.heapSize
  rw [hT] at h
  exact kk (by omega) T hT X
theorem x_newa (M : XM p m c cc nL s args own) (hK : xK G Y s) (hw : xW G A s.heap segs H locs) {atype : ArrayType} {kY N : Nat} {a0 : vp_A} (harr : Cond.arrayClass (newarray.typeOf atype) ∈ wB) (hk : (tysOf Y)[kY]? = some (Y kY, newarray.typeOf atype)) (ha : vp_cell (Y kY) a0 = arrV (Y kY) N (fun _ => defaultValue (newarray.typeOf atype))) (hN : N < 10000) (hz : H.size = z) (hcells : cells + 1 ≤ R.cells) (hslots : slots + N ≤ R.slots) (hdg : decode cc pc = .ok (.newarray atype, 2))
    (kk : ∀ (H1 : Heap), H1.size = z + 1 → xW G A s.heap (segs ++ [[(z, .inl (Y kY, a0))]]) H1 locs → W p l e R s m args below meth c H1 locs (cells + 1) (slots + N) Q (F0 m (pc + 2) ls (.ref z :: rest))) : W p l e R s m args below meth c H locs cells slots Q (F0 m pc ls (.int (nI N) :: rest)) := by
  subst hz
  refine va_newaK M.1 M.2.1 (M.2.2.2.2 _ harr) rfl hdg rfl (nI_pos (by omega)) (nI_clamp (by omega)) (by cases atype <;> simp only [newarray.typeOf, componentBytes] <;> omega) hcells hslots rfl fun H1 cA e1 z1 o1 hAr hNm => ?_
  have hY : cA = Y kY := by
    have h2 := (hK.1.2 kY _ hk).2
    have h3 : s.vm.findClass ("[" ++ (newarray.typeOf atype).toString) = some (Y kY) := by cases atype <;> exact h2
    exact Option.some.inj (hNm.symm.trans h3)
  subst hY
  refine kk H1 z1 (hw.push z1 o1 ?_)
  show H1[H.size]? = some (vp_cell _ _)
  rw [ha]
  exact e1
theorem x_new (M : XM p m c cc nL s args own) (hK : xK G Y s) (hw : xW G A s.heap segs H locs) {C : String} {T : u_T} {N ci : Nat} {fs : List Value} (hin : ∀ w ∈ u_ws C T N, w ∈ wB) (ty : Nat → FieldType) (hty : ∀ k, k < N → parseFieldDescriptor (T k).2.2.1 = some (ty k)) (hcl : Cond.classLink own idx C ∈ wB) (hinst : Cond.instantiable C N ∈ wB) (hini : Cond.initialized C ∈ wB) (hc : vwCl[ci]? = some (C, T, N)) (hfs : ∀ j, j < N → defaultValue (ty j) = vp_V fs j)
    (hz : H.size = z) (hcells : cells + 1 ≤ R.cells) (hslots : slots + N ≤ R.slots) (hdg : decode cc pc = .ok (.new idx, 3))
    (kk : ∀ (H1 : Heap), H1.size = z + 1 → xW G A s.heap (segs ++ [[(z, .inr (ci, fs))]]) H1 locs → W p l e R s m args below meth c H1 locs (cells + 1) (slots + N) Q (F0 m (pc + 3) ls (.ref z :: rest))) : W p l e R s m args below meth c H locs cells slots Q (F0 m pc ls rest) := by
  subst hz
  have hts := M.2.2.2.2
  have hKn := hK.1.1 ci _ hc
  refine W.newcK M.1 M.2.1 M.2.2.2.1 (hts _ hcl) (hts _ hinst) (hts _ hini) rfl hdg hcells hslots hKn.2.1 rfl fun H1 kC hkC e1 z1 o1 => ?_
  refine kk H1 z1 (hw.push z1 o1 ?_)
  exact ⟨_, hc, (u_born ty hts hin hKn hkC e1 hty).to hfs⟩
/-- a contract of what makes an object whole: the object at h is the newest cell; k more cells with n slots come behind it -/
def xPreA (G : va_G) (Y : Nat → Nat) (segs0 : List va_W) (sz : Nat) (U : State) : Prop := xPre G Y segs0 sz U ∧ va_AO RX1 U
def CtN (l : Launch) (y : MethodName) (cc : ByteArray) (maxL : Nat) (fr lo k n ci : Nat) (fs0 : List Value) (sgf : Nat → List va_W → Prop) (G : va_G) (Y : Nat → Nat) : Prop :=
  ∀ h, Met l y (.code y cc maxL none :: wB) { frames := fr, cells := k, slots := n, locals := lo } (va_Pc [.ref h] (xPreA G Y [[(h, .inr (ci, fs0))]] (h + 1))) (va_Qv (sgf h) (fun sg t => va_P G vwCl sg.flatten t.heap ∧ va_D (fun q => h ≤ q) sg.flatten ∧ t.heap.size = h + 1 + k) (fun q => h ≤ q)) k n (fun q => h ≤ q)
theorem x_blindA {As : List Value} {G : va_G} {Y : Nat → Nat} {sc : List va_W} {sz : Nat} : FrameBlind (va_Pc As (xPreA G Y sc sz)) := fun a U g mk q => by
  obtain ⟨q0, q1, q2⟩ := q
  obtain ⟨r0, r1⟩ := x_blind (As := As) (G := G) (Y := Y) (sc := sc) (sz := sz) a U g mk ⟨q0, q1⟩
  exact ⟨r0, r1, q2.moved (U := U.calling g mk a) (Vm.Alike.refl U.vm)⟩
theorem x_ofN {k n ci : Nat} {fs0 : List Value} {sgf : Nat → List va_W → Prop} (hy : plainName y.cls = true) (hlen : 1 ≤ maxL)
    (body : ∀ (h : Nat) (p : Program) (e : Env) (s : State) (m : MethodId) (args : Array Value) (below : List Frame) (meth : Method) (c : Code) (ls : Array Slot) (Q : State → Prop), XM p m c cc maxL s args y.cls → xK G Y s → xZ Y (fun q => h ≤ q) s s.heap → va_AO RX1 s → meth.name = y.name → s.heap.size = h + 1 → xW G (fun q => h ≤ q) s.heap [[(h, .inr (ci, fs0))]] s.heap [] → lv_has ls maxL [(0, .ref h)] →
      (∀ (H : Heap) (locs : List Loc) (sg : List va_W) (pc : Nat) (ls : Array Slot), decode cc pc = .ok (.return_, 1) → H.size = h + 1 + k → xW G (fun q => h ≤ q) s.heap sg H locs → sgf h sg → W p l e { frames := fr, cells := k, slots := n, locals := lo } s m args below meth c H locs k n Q (F0 m pc ls [])) →
      W p l e { frames := fr, cells := k, slots := n, locals := lo } s m args below meth c s.heap [] 0 0 Q (F0 m 0 ls [])) : CtN l y cc maxL fr lo k n ci fs0 sgf G Y := by
  intro h
  refine Met.ofW (cc := cc) (maxL := maxL) (ret := none) hy rfl ?_
  intro p e s m args below meth c s₁ B hml hv
  obtain ⟨rfl, ⟨hsz, hP, hD0, hK, hZ⟩, hAO⟩ := hv
  have hts := atoms_spec (ws := _) B.pre
  have hown : s.vm.findClass y.cls = some m.cls := findClass_of_methodNamed B.named
  rw [lg_entry_eq]
  have M : XM p m c cc maxL s _ y.cls := ⟨B.exec, B.bytes, hml, hown, fun w h => hts w (List.mem_cons_of_mem _ h)⟩
  have hZ2 : xZ Y (fun q => h ≤ q) s s.heap := hZ.narrow (fun q hq => by
    rcases Nat.eq_or_lt_of_le hq with e | e
    · subst e; exact Or.inl ⟨0, _, rfl⟩
    · exact Or.inr e)
  have hD2 : va_D (fun q => h ≤ q) [[(h, Sum.inr (ci, fs0))]].flatten := xD_iff.mpr ⟨by simp [ads], fun a ha => Nat.le_of_eq (by simpa [ads] using ha : a = h).symm⟩
  refine body h p e s m _ below meth c _ _ M hK hZ2 hAO (name_of_methodNamed B.named B.method).1 hsz ⟨hP, hD2, va_S.rf, fun q hq => by omega⟩ (lv_entry [.ref h] hlen) ?_
  intro H locs sg pc ls hd hz hw hp
  exact W.vret M.1 M.2.1 B.returns (fun t ht _ => ⟨⟨sg, rfl, hp, by rw [ht]; exact hw.1, hw.2.1, by rw [ht]; exact hz⟩, hw.2.2.1.F ht⟩) hw.2.2.1.2.2 hd B.notSynchronized
def xcI (own : String) (idx : Nat) (y : MethodName) (cy : ByteArray) (maxL : Nat) : Prop := Cond.methodLink own idx y ∈ wB ∧ Cond.instanceMethod y ∈ wB ∧ Cond.initialized y.cls ∈ wB ∧ Cond.code y cy maxL none ∈ wB ∧ (y.cls ≠ "java/lang/invoke/MethodHandle" ∧ y.cls ≠ "java/lang/invoke/VarHandle" ∧ (parseMethodDescriptor y.desc).map (fun d => d.parameters.length) = some 0) ∧ y.name = "<init>"
theorem x_init {ci : Nat} {fs0 : List Value} {sgf : Nat → List va_W → Prop} (hC : CtN l y cy maxL fr lo k n ci fs0 sgf G Y) (cw : xcI own idx y cy maxL) (M : XM p m c cc nL s args own) (hK : xK G Y s) (hZ : xZ Y A s s.heap) (hAO : va_AO RX1 s) (hw : xW G A s.heap (segs ++ [[(z, .inr (ci, fs0))]]) H locs) (hz : H.size = z + 1) (h0 : s.heap.size ≤ z) (hl : ls.size = nL)
    (hR : fr + 1 ≤ R.frames ∧ 8 + (maxL + 11) + lo ≤ R.locals) (hf : cells + k ≤ R.cells ∧ slots + n ≤ R.slots) (hrest : (rest.map fun v => v.category).sum ≤ 8) (hdg : decode cc pc = .ok (.invokespecial idx, 3))
    (kk : ∀ (sg : List va_W), sgf z sg → ∀ (H1 : Heap) (locs1 : List Loc), H1.size = z + 1 + k → xW G A s.heap (segs ++ sg) H1 locs1 → W p l e R s m args below meth c H1 locs1 (cells + k) (slots + n) Q (F0 m (pc + 3) ls rest)) : W p l e R s m args below meth c H locs cells slots Q (F0 m pc ls (.ref z :: rest)) := by
  obtain ⟨c1, c2, c3, c4, c5, c6⟩ := cw
  have hs : [segs.length].map (fun i => (segs ++ [[(z, (Sum.inr (ci, fs0) : va_E))]])[i]?) = [[(z, (Sum.inr (ci, fs0) : va_E))]].map some := by simp
  have hp0 := x_preS (As := [.ref z]) hK hZ hw hs rfl
  rw [hz] at hp0
  have hp : PreS s H (va_Pc [.ref z] (xPreA G Y [[(z, .inr (ci, fs0))]] (z + 1))) [.ref z] := ⟨x_blindA, fun U hU hW => ⟨(hp0.2 U hU hW).1, (hp0.2 U hU hW).2, hAO.moved hW.alike⟩⟩
  have hG : GoodIn wB (.code y cy maxL none :: wB) := fun w h => by
    rcases List.mem_cons.mp h with rfl | h
    · exact gB c4
    · exact gB h
  have hr : va_Run p l e R s m args below meth c H locs cells slots k n (F0 m pc ls (.ref z :: rest)) rest ((va_Qv (sgf z) (fun sg t => va_P G vwCl sg.flatten t.heap ∧ va_D (fun q => z ≤ q) sg.flatten ∧ t.heap.size = z + 1 + k) (fun q => z ≤ q)) (([Value.ref z] : List Value).toArray)) (fun q => z ≤ q) :=
    va_runI (As := []) M (hC z) ⟨callB_of 0 M.2.2.2.2 hG rfl rfl rfl (M.2.2.2.2 _ c3) (M.2.2.2.2 _ c1) c5 hR, c6, M.2.2.2.2 _ c2⟩ hp rfl rfl hl rfl (lv_room hrest) hdg hf
  refine va_callv hr hw.2.2.1 (fun q _ h => hw.2.2.2 q (Nat.le_trans h0 h)) (fun q h => hw.2.2.2 q (Nat.le_trans h0 h)) (fun u t H1 locs1 ht hvm hp hB hz1 hk hS => ?_)
  obtain ⟨b1, b2, b3⟩ := hB
  refine kk u hp H1 locs1 (by rw [← ht]; exact b3) (hw.app hz h0 (fun q hq => hk q (by omega) (by omega)) (by rw [← ht]; exact b1) b2 hS)
theorem x_astq (M : XM p m c cc nL s args own) (hK : xK G Y s) {H0 : Heap} (hw : xW G A H0 segs H locs) (i j i2 j2 : Nat) {a v n k : Nat} {seg2 : va_W} {vs : List Value} {f : Nat → Option Nat} (hs : segs[i]? = some seg) (he : seg[j]? = some (a, .inl (Y 4, n, .inr (.inr (.inr (.inr f)))))) (hs2 : segs[i2]? = some seg2) (he2 : seg2[j2]? = some (v, .inr (1, vs))) (hk : k < n) (hn : n < 2 ^ 31) (hdg : decode cc pc = .ok (.aastore, 1))
    (kk : ∀ (H1 : Heap) (locs1 : List Loc), H1.size = H.size → xW G A H0 (segs.set i (seg.set j (a, .inl (Y 4, n, .inr (.inr (.inr (.inr (va_up f k (some v))))))))) H1 locs1 → W p l e R s m args below meth c H1 locs1 cells slots Q (F0 m (pc + 1) ls rest)) : W p l e R s m args below meth c H locs cells slots Q (F0 m pc ls (.ref v :: .int (nI k) :: .ref a :: rest)) := by
  obtain ⟨r', hr', cellV, g1, g2, g3, -⟩ := hw.seg hs2 j2 _ he2
  have hc : vwCl[1]? = some (RX1, TX1, 15) := rfl
  have hcls := (hK.1.1 1 _ hc).2
  obtain ⟨kA, comp, k1, k2, k3, -⟩ := (hK.1.2 4 _ rfl).2
  have hcomp : comp = G.1 1 := Option.some.inj (k3.symm.trans hcls.1)
  subst hcomp
  obtain ⟨kC, hkC, -⟩ := hcls.2
  have hin := vp_in_nI hk hn
  have h0 : ¬ nI k < 0 := nI_pos (by omega)
  refine W.aast M.1 M.2.1 (hw.seg hs j _ he) (fun q h => by cases h) (fun h => by cases h) k1 k2 rfl hkC ⟨h0, by show _ < (arrV _ _ _).slots.size; rw [arrV_size, nI_clamp (by omega)]; exact hk⟩ g1 (fun q h => by rw [g3] at h; cases h) (by rw [g2]; exact hkC) (by rw [g2]; exact va_assign hcls) rfl rfl hdg fun H1 e z oq => ?_
  refine kk H1 _ z (hw.put hs he ?_ z oq)
  show H1[a]? = some (vp_cell _ _)
  rw [e, nI_clamp (by omega)]
  rw [vp_cell_q, vp_cell_q, arrV_store]
  congr 2
  funext q
  by_cases hq : q = k
  · subst hq
    simp [updV, va_up, va_rf]
  · simp [updV, va_up, hq]
theorem x_newq (M : XM p m c cc nL s args own) (hK : xK G Y s) (hAO : va_AO RX1 s) (hw : xW G A s.heap segs H locs) {N : Nat} (hcl : Cond.classLink own idx RX1 ∈ wB) (hN : N < 10000) (hz : H.size = z) (hcells : cells + 1 ≤ R.cells) (hslots : slots + N ≤ R.slots) (hdg : decode cc pc = .ok (.anewarray idx, 3))
    (kk : ∀ (H1 : Heap), H1.size = z + 1 → xW G A s.heap (segs ++ [[(z, .inl (Y 4, N, .inr (.inr (.inr (.inr (fun _ => none))))))]]) H1 locs → W p l e R s m args below meth c H1 locs (cells + 1) (slots + N) Q (F0 m (pc + 3) ls (.ref z :: rest))) : W p l e R s m args below meth c H locs cells slots Q (F0 m pc ls (.int (nI N) :: rest)) := by
  subst hz
  refine W.anew M.1 M.2.1 M.2.2.2.1 (M.2.2.2.2 _ hcl) (va_AO.use hAO) rfl hdg rfl (nI_pos (by omega)) (by rw [nI_clamp (by omega)]; omega) hcells (by rw [nI_clamp (by omega)]; exact hslots) fun cA kA comp f1 f2 f3 f4 => ?_
  rw [nI_clamp (by omega)]
  generalize hH1 : H.push ({ cls := cA, slots := Array.replicate N .null, vm := .none } : Cell) = H1
  have z1 : H1.size = H.size + 1 := by rw [← hH1, Array.size_push]
  have e1 : H1[H.size]? = some (arrV cA N (fun _ => .null)) := by rw [← hH1, Array.getElem?_push_size, ← arrV_new]
  have o1 : ∀ q : Nat, q < H.size → H1[q]? = H[q]? := fun q hq => by rw [← hH1, Array.getElem?_push, if_neg (Nat.ne_of_lt hq)]
  have hY : cA = Y 4 := by
    obtain ⟨kA2, comp2, k1, k2, k3, k4⟩ := (hK.1.2 4 _ rfl).2
    have : s.vm.findClass ("[" ++ (FieldType.object RX1).toString) = some cA := by first | exact f4 | exact f1
    exact Option.some.inj (this.symm.trans k4)
  subst hY
  refine kk H1 z1 (hw.push z1 o1 ?_)
  show H1[H.size]? = some (vp_cell _ _)
  rw [e1]
  first | rfl | (rw [vp_cell_q]; rfl)
end XNEW
/-- arrays of objects that agree within their length are one cell -/
theorem xAt_congrQ {G : va_G} {cl : List vw_C} {a : Nat} {cA : ClassId} {n : Nat} {f g : Nat → Option Nat} {H : Heap} (h : va_at G cl (a, .inl (cA, n, .inr (.inr (.inr (.inr f))))) H) (e : ∀ j, j < n → g j = f j) : va_at G cl (a, .inl (cA, n, .inr (.inr (.inr (.inr g))))) H := by
  have hc : vp_cell cA (n, .inr (.inr (.inr (.inr g)))) = vp_cell cA (n, .inr (.inr (.inr (.inr f)))) := by
    rw [vp_cell_q, vp_cell_q]
    simp only [arrV]
    congr 1
    apply Array.ext
    · simp
    · intro j h1 h2
      have hj : j < n := by simpa using h1
      simp [e j hj]
  show H[a]? = some _
  rw [hc]
  exact h
theorem xW.congrQ {G : va_G} {A : Nat → Prop} {H0 H : Heap} {segs : List va_W} {locs : List Loc} (h : xW G A H0 segs H locs) {i j a n : Nat} {cA : ClassId} {seg : va_W} {f g : Nat → Option Nat} (hs : segs[i]? = some seg) (he : seg[j]? = some (a, .inl (cA, n, .inr (.inr (.inr (.inr f)))))) (e : ∀ j, j < n → g j = f j) : xW G A H0 (segs.set i (seg.set j (a, .inl (cA, n, .inr (.inr (.inr (.inr g))))))) H locs := by
  have := h.put (locs := locs) (k := 0) hs he (xAt_congrQ (h.seg hs j _ he) e) rfl (fun _ _ => rfl)
  exact ⟨this.1, this.2.1, h.2.2.1, h.2.2.2⟩
