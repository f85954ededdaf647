/-! THE CLAIM OUT OF ONE WALK OF THE LAW'S BODY. Your part is whole_start (and what it stands on); all else here is the same for every law, but numbers. -/
def R_law : String := "ClockLotsLaw"
def lw_P (b : Addr) (xs : List Int32) (args : Array Value) (s : State) : Prop := args = #[.ref b] ∧ s.IntsAt b xs ∧ xs.length ≤ 260 ∧ (Jvm.Cond.and given_1 narrow_1).before args s = true
def lw_Q (_ : Array Value) (s : State) (o : Outcome) (t : State) : Prop := o = .returned (some (.int 1)) ∧ Framed s o t [] 659520 7123139
def lw_Z (below : List Frame) (a : Array Value) (s : State) : State → Prop := fun t => ∃ o, t.status = .running ∧ Ended t below o ∧ lw_Q a s o t
/-- the law's own end, with 1 on the stack, nothing written that was there before, its room as the claim has it -/
theorem lw_ret {p : Program} {l : Launch} {e : Env} {s : State} {m : MethodId} {below : List Frame} {meth : Method} {c : Code} {b : Nat} (hx : p.tables.exec = Jvm.exec) (hb : c.code = code) (hr : meth.sig.returnType = ret) (hlocks : meth.locks = false) {pc : Nat} {H : Heap} {ls : Array Slot} (hdg : decode code pc = .ok (.ireturn, 1)) : W p l e room_1 s m #[Value.ref b] below meth c H [] 659520 7123139 (lw_Z below #[Value.ref b] s) (F0 m pc ls [.int 1]) := by
  intro T hT X
  obtain ⟨fs, hret, hrun, hended, hW, hframe⟩ := X.leave (v := some (.int 1)) (hlocks := hlocks) (fun h => by rw [hr] at h; cases h)
  have hmeth' : T.vm.method? m = some meth := X.method'
  refine ⟨T.setFrames fs, ?_, .returned (some (.int 1)), hrun, hended, rfl, ⟨_, rfl⟩, hW, hframe⟩
  jvm_step X.here [X.here.top, hx, hb, hdg, hmeth', hr, ret, narrow_b1]
  (try refine ⟨rfl, ?_⟩); (try refine ⟨rfl, ?_⟩)
  first | (intro acts; rw [hret _ acts rfl rfl rfl]) | rw [hret _ _ rfl rfl rfl]
  exact Steps.refl _
/-- what holds at the law's entry: the machine, the code, the tables' words (any of lw_tbl by 'hts w (by decide +kernel)'), the script of L ints xs at the cell b, what the Statement gives of the start (any of its parts by flat_of_before) -/
def lw_At (p : Program) (s : State) (m : MethodId) (meth : Method) (c : Code) (b L : Nat) (xs : Nat → Int32) : Prop :=
  p.tables.exec = Jvm.exec ∧ c.code = code ∧ meth.sig.returnType = ret ∧ c.maxLocals = 10 ∧ s.vm.findClass R_law = some m.cls ∧ (∀ w ∈ lw_tbl, w.before #[Value.ref b] s = true) ∧ va_X b L xs s s.heap ∧ b < s.heap.size ∧ meth.locks = false ∧ (Jvm.Cond.and given_1 narrow_1).before #[Value.ref b] s = true
set_option maxHeartbeats 8000000 in
set_option maxRecDepth 20000 in
/-- the law, from its entry -/
theorem whole_start {p : Program} {e : Env} {s : State} {m : MethodId} {below : List Frame} {meth : Method} {c : Code} (l : Launch) (hflags : l.flags = flags0) {b L : Nat} {xs : Nat → Int32} (hL : L ≤ 260) (C0 : lw_At p s m meth c b L xs) : W p l e room_1 s m #[Value.ref b] below meth c s.heap [] 0 0 (lw_Z below #[Value.ref b] s) (entryFrame m ([Value.ref b] : List Value).toArray 10) := by
  obtain ⟨hx, hb, hr, hml, hown, hts, hX, hbl, hlocks, hgv⟩ := id C0
  obtain ⟨G, Y, hK, hZ, hN, hAO⟩ := x_tabs hts hgv
  have hfl : l.stackTraces = false := by
    unfold Launch.stackTraces
    rw [hflags]
    decide +kernel
  have M : XM p m c cL_law 10 s #[Value.ref b] RL := ⟨hx, hb, hml, hown, fun w h => hts w (inWB h)⟩
  obtain ⟨h, hh⟩ : ∃ h : Nat, s.heap.size = h := ⟨_, rfl⟩
  rw [hh] at hZ
  have hbA : ¬ (fun q : Nat => h ≤ q) b := Nat.not_le.mpr (by omega)
  have hw : xW G (fun q : Nat => h ≤ q) s.heap [] s.heap [] := ⟨xP_iff.mpr (fun q z => absurd z List.not_mem_nil), xD_iff.mpr ⟨List.nodup_nil, fun q z => absurd z List.not_mem_nil⟩, va_S.rf, fun q z => by omega⟩
  have hl := lv_entry ([.ref b]) (n := 10) (Nat.le_of_ble_eq_true rfl)
  rw [lg_entry_eq]
  generalize (lg_sl ([.ref b]) ++ List.replicate (10 - (lg_sl ([.ref b])).length) Slot.unset).toArray = ls at hl ⊢
  have hl : lv_has ls 10 [(0, .ref b)] := hl
  refine x_new (z := h) (ci := 4) M hK hw iw_X5 tyX5 tyX5_ok mw_20 mw_21 mw_1 rfl fs_X5 hh (Nat.le_of_ble_eq_true rfl) (Nat.le_of_ble_eq_true rfl) dL_law_0 (fun H hz hw => ?_)
  refine lv_dup hx hb dL_law_3 rfl ?_
  refine x_init (n_X5 l G Y) ci_L_229 (z := h) M hK hZ hAO hw hz (by omega) hl.1 ⟨(Nat.le_of_ble_eq_true rfl), (Nat.le_of_ble_eq_true rfl)⟩ ⟨(Nat.le_of_ble_eq_true rfl), (Nat.le_of_ble_eq_true rfl)⟩ (Nat.le_of_ble_eq_true rfl) dL_law_4 ?_
  rintro sg ⟨γ, γ1, gg, δ0, δ1, rfl⟩ H locs hz hw
  have hw : xW G (fun q : Nat => h ≤ q) s.heap [[(h, .inr (4, [.ref (h + 1), .ref (h + 12), .ref (h + 23), .ref (h + 179), .ref (h + 202), .ref (h + 203), .ref (h + 205)]))], aucW Y (h + 1) row0 γ, aucW Y (h + 12) row0 γ1, hisW Y (h + 23) (h + 25) 0 0, ringW Y (h + 25) (fun _ => row0) gg, [((h + 179), .inl (Y 4, 2, .inr (.inr (.inr (.inr (fun k => some (if k = 0 then (h + 180) else (h + 191))))))))], aucW Y (h + 180) row0 δ0, aucW Y (h + 191) row0 δ1, [((h + 202), .inl (Y 1, 2, .inl (fun _ => 0)))], txtW Y (h + 203) (fun _ => 0) 0, asgW Y (h + 205) (fun _ => 0) (rowF (fun _ => 0)) (rowF (fun _ => 0)) 0] H locs := hw
  have hz : H.size = h + 209 := by omega
  generalize hS5 : ([[(h, .inr (4, [.ref (h + 1), .ref (h + 12), .ref (h + 23), .ref (h + 179), .ref (h + 202), .ref (h + 203), .ref (h + 205)]))], aucW Y (h + 1) row0 γ, aucW Y (h + 12) row0 γ1, hisW Y (h + 23) (h + 25) 0 0, ringW Y (h + 25) (fun _ => row0) gg, [((h + 179), .inl (Y 4, 2, .inr (.inr (.inr (.inr (fun k => some (if k = 0 then (h + 180) else (h + 191))))))))], aucW Y (h + 180) row0 δ0, aucW Y (h + 191) row0 δ1, [((h + 202), .inl (Y 1, 2, .inl (fun _ => 0)))], txtW Y (h + 203) (fun _ => 0) 0, asgW Y (h + 205) (fun _ => 0) (rowF (fun _ => 0)) (rowF (fun _ => 0)) 0] : List va_W) = S5 at hw
  refine lv_astore_n (lv' := [(1, .ref h), (0, .ref b)]) hx hb dL_law_7 rfl hl (by decide) rfl (fun ls hl => ?_)
  refine x_new (z := h + 209) (ci := 4) M hK hw iw_X5 tyX5 tyX5_ok mw_20 mw_21 mw_1 rfl fs_X5 hz (Nat.le_of_ble_eq_true rfl) (Nat.le_of_ble_eq_true rfl) dL_law_8 (fun H hz hw => ?_)
  refine lv_dup hx hb dL_law_11 rfl ?_
  refine x_init (n_X5 l G Y) ci_L_229 (z := h + 209) M hK hZ hAO hw hz (by omega) hl.1 ⟨(Nat.le_of_ble_eq_true rfl), (Nat.le_of_ble_eq_true rfl)⟩ ⟨(Nat.le_of_ble_eq_true rfl), (Nat.le_of_ble_eq_true rfl)⟩ (Nat.le_of_ble_eq_true rfl) dL_law_12 ?_
  rintro sg ⟨γ2, γ12, gg2, δ02, δ12, rfl⟩ H locs hz hw
  subst hS5
  refine lv_astore_n (lv' := [(2, .ref (h + 209)), (1, .ref h), (0, .ref b)]) hx hb dL_law_15 rfl hl (by decide) rfl (fun ls hl => ?_)
  refine lv_iconst (v := nI 1) hx hb dL_law_16 (by decide) ?_
  refine lv_istore_n (lv' := [(3, .int (nI 1)), (2, .ref (h + 209)), (1, .ref h), (0, .ref b)]) hx hb dL_law_17 rfl hl (by decide) rfl (fun ls hl => ?_)
  refine lv_iconst (v := nI 0) hx hb dL_law_18 (by decide) ?_
  refine lv_istore (lv' := [(4, .int (nI 0)), (3, .int (nI 1)), (2, .ref (h + 209)), (1, .ref h), (0, .ref b)]) hx hb dL_law_19 hl (by decide) rfl (fun ls hl => ?_)
  have hw : xW G (fun q : Nat => h ≤ q) s.heap (oW Y h (h + 1) (h + 12) (h + 23) (h + 25) (h + 179) (h + 180) (h + 191) (h + 202) (h + 203) (h + 205) row0 0 0 (fun _ => row0) row0 row0 (fun _ => 0) 0 (fun _ => 0) γ row0 γ1 gg δ0 δ1 (fun _ => 0) (rowF (fun _ => 0)) (rowF (fun _ => 0)) 0 ++ oW Y (h + 209) (h + 209 + 1) (h + 209 + 12) (h + 209 + 23) (h + 209 + 25) (h + 209 + 179) (h + 209 + 180) (h + 209 + 191) (h + 209 + 202) (h + 209 + 203) (h + 209 + 205) row0 0 0 (fun _ => row0) row0 row0 (fun _ => 0) 0 (fun _ => 0) γ2 row0 γ12 gg2 δ02 δ12 (fun _ => 0) (rowF (fun _ => 0)) (rowF (fun _ => 0)) 0) H locs := hw
  have hend : ∀ (segs : List va_W) (H : Heap) (locs : List Loc) (ls : Array Slot) (cells slots : Nat), cells ≤ 30000 → slots ≤ 200000 → xW G (fun q : Nat => h ≤ q) s.heap segs H locs → lv_has ls 10 [(3, .int (nI 1))] → W p l e room_1 s m #[Value.ref b] below meth c H locs cells slots (lw_Z below #[Value.ref b] s) (F0 m 242 ls []) := by
    intro segs H locs ls cells slots h1 h2 hw hl
    have hl : lv_has ls 10 [(3, .int 1)] := hl
    refine lv_iload_n hx hb dL_law_242 rfl (lv_at hl 0 rfl) ?_
    refine va_forget (fun q hq => by rw [hh]; exact hw.2.2.1.2.2 q hq) ?_
    refine W_widen (k := 659520) (n := 7123139) (by omega) (by omega) ?_
    exact lw_ret hx hb hr hlocks dL_law_243
  have hO : OK (121 * 0) row0 0 0 (fun _ => row0) row0 row0 (fun _ => 0) 0 (fun _ => 0) :=
    ⟨Good_0, by decide, fun i _ => Nat.zero_lt_succ 255, by decide, by decide, fun k hk => absurd hk (Nat.not_lt_zero k), Or.inl nI_0.symm, Or.inl nI_0.symm⟩
  refine W_widen (k := 418 + 704 * 0) (n := 5738 + 4224 * 0) (Nat.le_of_ble_eq_true rfl) (Nat.le_of_ble_eq_true rfl) ?_
  exact law_loop hfl M hK hZ hN hX hbl hbA hL ⟨(Nat.le_of_ble_eq_true rfl), (Nat.le_of_ble_eq_true rfl)⟩ ⟨(Nat.le_of_ble_eq_true rfl), (Nat.le_of_ble_eq_true rfl)⟩ hend 29 0 (by omega) (by omega) _ _ _ _ _ _ _ _ _ _ _ _ _ _ _ _ _ _ _ _ _ _ _ _ _ _ _ _ _ hO H locs ls hw (lv_sub hl [4, 3, 2, 1, 0] rfl)
