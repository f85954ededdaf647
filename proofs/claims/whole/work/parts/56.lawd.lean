/-! the law's loop: the two worlds side by side -/
def jW (Y : Nat → Nat) (xo h0 h1 hh hb2 sl a0 a1 sv tz az mo tx nw tr dy kp ik td ch ot : Nat) (f : Nat → Int64) (ρ : Nat → Nat) (γ : Nat → Nat → Nat) (κ : Nat → Nat) (γ1 : Nat → Nat → Nat) (nx : Nat) (ct : Nat) (rr : Nat → Nat → Nat) (gg : Nat → Nat → Nat → Nat) (κ0 : Nat → Nat) (δ0 : Nat → Nat → Nat) (κ1 : Nat → Nat) (δ1 : Nat → Nat → Nat) (fl : Nat → Int32) (n : Nat) (lt : Nat → Nat) (lf : Nat → Nat) (tk : Nat → Int32) (bt : Nat → Int32) (bw : Int32) (rf : Nat) (φt : Nat → Nat) (φ : Nat → Nat) (kf : Nat → Nat) (tr1 : Nat → Nat) (ch1 : Nat → Nat) (sp : Nat) (ou : Nat) (dia : Nat → Nat → Nat) : List va_W :=
  [outS Y ot f, [(xo, .inr (4, [.ref h0, .ref h1, .ref hh, .ref sl, .ref sv, .ref tz, .ref az]))], aucW Y h0 ρ γ, aucW Y h1 κ γ1, hisW Y hh hb2 nx ct, ringW Y hb2 rr gg, [(sl, .inl (Y 4, 2, .inr (.inr (.inr (.inr (fun k => some (if k = 0 then a0 else a1)))))))], aucW Y a0 κ0 δ0, aucW Y a1 κ1 δ1, [(sv, .inl (Y 1, 2, .inl fl))], txtW Y tz lt n, asgW Y az lf tk bt bw, [(mo, .inr (5, [.int (nI rf), .ref tx, .int (nI n), .ref nw, .ref tr, .ref dy, .int (nI ct), .ref kp, .ref ik, .ref td, .ref ch, .int (nI sp), .int (nI ou)]))], [(tx, .inl (Y 0, 120, .inl (rowF lt)))], [(nw, .inl (Y 0, 140, .inl (rowF ρ)))], [(tr, .inl (Y 0, 140, .inl (rowF φt)))], [(dy, .inl (Y 0, 1960, .inl (rowF φ)))], [(kp, .inl (Y 0, 280, .inl (rowF kf)))], [(ik, .inl (Y 1, 2, .inl fl))], [(td, .inl (Y 0, 6, .inl (rowF tr1)))], [(ch, .inl (Y 0, 6, .inl (rowF ch1)))]]
/-- both hold the same auction, the same text, the same flags, the same history -/
def LJ (ρ : Nat → Nat) (n : Nat) (lt : Nat → Nat) (nx ct : Nat) (rr dia : Nat → Nat → Nat) (φ : Nat → Nat) (fl : Nat → Int32) (κ0 kf κ1 : Nat → Nat) : Prop :=
  Inv ρ ∧ n ≤ 120 ∧ (∀ i, i < 120 → lt i < 256) ∧ ringOk nx ct rr dia ∧ diaOk ct φ dia ∧ diaInv ct dia ∧ (fl 0 = nI 0 ∨ (fl 0 = nI 1 ∧ Inv κ0 ∧ ∀ q, q < 140 → kf (0 + q) = κ0 q)) ∧ (fl 1 = nI 0 ∨ (fl 1 = nI 1 ∧ Inv κ1 ∧ ∀ q, q < 140 → kf (140 + q) = κ1 q))
/-- what holds all along in the law's body -/
def LE (p : Program) (l : Launch) (R : Room) (s : State) (m : MethodId) (args : Array Value) (c : Code) (G : va_G) (Y : Nat → Nat) (A : Nat → Prop) (b L : Nat) (xs : Nat → Int32) : Prop :=
  l.stackTraces = false ∧ XM p m c cL_law 7 s args RL ∧ xK G Y s ∧ xZ Y A s s.heap ∧ xN s ∧ va_X b L xs s s.heap ∧ b < s.heap.size ∧ ¬ A b ∧ L ≤ 3072 ∧ (1000 ≤ R.frames ∧ 10000 ≤ R.locals)
def lawEnd (Y : Nat → Nat) (mo ot : Nat) (k r : Int32) (S : List va_W) : Prop :=
  ∃ (f : Nat → Int64) (rf tx sz nw tr dy ac kp ik td ch sp ou : Nat), S[0]? = some (outS Y ot f) ∧ S[12]? = some [(mo, .inr (5, [.int (nI rf), .ref tx, .int (nI sz), .ref nw, .ref tr, .ref dy, .int (nI ac), .ref kp, .ref ik, .ref td, .ref ch, .int (nI sp), .int (nI ou)]))] ∧ k = nI rf ∧ rf < 4 ∧ (rf = 0 → f 0 = r.toInt64)
section LAWT
variable {p : Program} {l : Launch} {e : Env} {R : Room} {s : State} {m : MethodId} {args : Array Value} {below : List Frame} {meth : Method} {c : Code} {H : Heap} {locs : List Loc} {cells slots : Nat} {Q : State → Prop}
variable {ls : Array Slot} {G : va_G} {Y : Nat → Nat} {A : Nat → Prop} {b L i xo h0 h1 hh hb2 sl a0 a1 sv tz az mo tx nw tr dy kp ik td ch ot : Nat} {xs : Nat → Int32}
variable {S : List va_W} {k r : Int32}
theorem LE.fl (E : LE p l R s m args c G Y A b L xs) : l.stackTraces = false := E.1
theorem LE.M (E : LE p l R s m args c G Y A b L xs) : XM p m c cL_law 7 s args RL := E.2.1
theorem LE.hK (E : LE p l R s m args c G Y A b L xs) : xK G Y s := E.2.2.1
theorem LE.hZ (E : LE p l R s m args c G Y A b L xs) : xZ Y A s s.heap := E.2.2.2.1
theorem LE.hN (E : LE p l R s m args c G Y A b L xs) : xN s := E.2.2.2.2.1
theorem LE.hX (E : LE p l R s m args c G Y A b L xs) : va_X b L xs s s.heap := E.2.2.2.2.2.1
theorem LE.hbl (E : LE p l R s m args c G Y A b L xs) : b < s.heap.size := E.2.2.2.2.2.2.1
theorem LE.hbA (E : LE p l R s m args c G Y A b L xs) : ¬ A b := E.2.2.2.2.2.2.2.1
theorem LE.hL (E : LE p l R s m args c G Y A b L xs) : L ≤ 3072 := E.2.2.2.2.2.2.2.2.1
theorem LE.hR (E : LE p l R s m args c G Y A b L xs) : 1000 ≤ R.frames ∧ 10000 ≤ R.locals := E.2.2.2.2.2.2.2.2.2
/-- on to the next: whatever the data are then -/
def LK (p : Program) (l : Launch) (e : Env) (R : Room) (s : State) (m : MethodId) (args : Array Value) (below : List Frame) (meth : Method) (c : Code) (G : va_G) (Y : Nat → Nat) (A : Nat → Prop) (b i xo h0 h1 hh hb2 sl a0 a1 sv tz az mo tx nw tr dy kp ik td ch ot : Nat) (cells slots : Nat) (Q : State → Prop) : Prop :=
  ∀ (f : Nat → Int64) (ρ : Nat → Nat) (γ : Nat → Nat → Nat) (κ : Nat → Nat) (γ1 : Nat → Nat → Nat) (nx : Nat) (ct : Nat) (rr : Nat → Nat → Nat) (gg : Nat → Nat → Nat → Nat) (κ0 : Nat → Nat) (δ0 : Nat → Nat → Nat) (κ1 : Nat → Nat) (δ1 : Nat → Nat → Nat) (fl : Nat → Int32) (n : Nat) (lt : Nat → Nat) (lf : Nat → Nat) (tk : Nat → Int32) (bt : Nat → Int32) (bw : Int32) (rf : Nat) (φt : Nat → Nat) (φ : Nat → Nat) (kf : Nat → Nat) (tr1 : Nat → Nat) (ch1 : Nat → Nat) (sp : Nat) (ou : Nat) (dia : Nat → Nat → Nat), LJ ρ n lt nx ct rr dia φ fl κ0 kf κ1 → ∀ (H : Heap) (locs : List Loc) (ls : Array Slot), xW G A s.heap (jW Y xo h0 h1 hh hb2 sl a0 a1 sv tz az mo tx nw tr dy kp ik td ch ot f ρ γ κ γ1 nx ct rr gg κ0 δ0 κ1 δ1 fl n lt lf tk bt bw rf φt φ kf tr1 ch1 sp ou dia) H locs → lv_has ls 7 [(0, .ref b), (1, .ref xo), (2, .ref mo), (3, .ref ot), (4, .int (nI i))] → W p l e R s m args below meth c H locs cells slots Q (F0 m 2113 ls [])
/-- a place of the script -/
theorem law_rd (E : LE p l R s m args c G Y A b L xs) {A1 : Nat → Prop} {pc k : Nat} {x : Int32} {rest : List Value} {segs : List va_W} (hw : xW G A s.heap segs H locs) (hk : k < L) (hx : xs k = x) (hdg : decode cL_law pc = .ok (.iaload, 1))
    (kk : W p l e R s m args below meth c H locs cells slots Q (F0 m (pc + 1) ls (.int x :: rest))) : W p l e R s m args below meth c H locs cells slots Q (F0 m pc ls (.int (nI k) :: .ref b :: rest)) := by
  have hL := E.hL
  refine va_sld E.M.1 E.M.2.1 E.hX E.hbl E.hbA hw.2.2.1 (vp_in_nI hk (by omega)) hdg ?_
  rw [nI_clamp (by omega), hx]
  exact kk
theorem lg_cmp_self (x : Int64) : lg_cmp x x = 0 := by
  unfold lg_cmp
  rw [if_neg (show ¬ x > x from fun z => Int.lt_irrefl _ (Int64.lt_iff_toInt_lt.mp z)), if_pos rfl]
set_option maxHeartbeats 2000000 in
theorem law_tail (E : LE p l R s m args c G Y A b L xs) {t : Nat} {off : Int} (d0 : decode cL_law t = .ok (.aload_n 2, 1)) (d1 : decode cL_law (t + 1) = .ok (.invokevirtual 116, 3)) (d4 : decode cL_law (t + 4) = .ok (.iload 5, 2)) (d6 : decode cL_law (t + 6) = .ok (.if_icmp .eq 5, 3)) (d11 : decode cL_law (t + 11) = .ok (.iload 5, 2)) (d13 : decode cL_law (t + 13) = .ok (.ifCond .ne 15, 3))
    (d16 : decode cL_law (t + 16) = .ok (.aload_n 3, 1)) (d17 : decode cL_law (t + 17) = .ok (.iconst 0, 1)) (d18 : decode cL_law (t + 18) = .ok (.laload, 1)) (d19 : decode cL_law (t + 19) = .ok (.iload 6, 2)) (d21 : decode cL_law (t + 21) = .ok (.i2l, 1)) (d22 : decode cL_law (t + 22) = .ok (.lcmp, 1)) (d23 : decode cL_law (t + 23) = .ok (.ifCond .eq 5, 3)) (d28 : decode cL_law (t + 28) = .ok (.goto off, 3)) (ht : ((t + 28 : Nat) : Int) + off = ((2113 : Nat) : Int))
    (hf : cells ≤ R.cells ∧ slots ≤ R.slots) (hw : xW G A s.heap S H locs) (hl : lv_has ls 7 [(6, .int r), (5, .int k), (0, .ref b), (1, .ref xo), (2, .ref mo), (3, .ref ot), (4, .int (nI i))]) (hend : lawEnd Y mo ot k r S)
    (K : ∀ H locs ls, xW G A s.heap S H locs → lv_has ls 7 [(0, .ref b), (1, .ref xo), (2, .ref mo), (3, .ref ot), (4, .int (nI i))] → W p l e R s m args below meth c H locs cells slots Q (F0 m 2113 ls [])) : W p l e R s m args below meth c H locs cells slots Q (F0 m t ls []) := by
  obtain ⟨hx, hb, -⟩ := id E.M
  obtain ⟨f, rf, tx, sz, nw, tr, dy, ac, kp, ik, td, ch, sp, ou, h0, h12, hk, hr4, hv⟩ := hend
  have hRR := E.hR
  refine lv_aload_n hx hb d0 rfl (lv_at hl 4 rfl) ?_
  have hs : [12].map (fun i => S[i]?) = [[((mo : Nat), (Sum.inr (5, [Value.int (nI rf), .ref tx, .int (nI sz), .ref nw, .ref tr, .ref dy, .int (nI ac), .ref kp, .ref ik, .ref td, .ref ch, .int (nI sp), .int (nI ou)]) : va_E))]].map some := by
    rw [List.map_singleton, List.map_singleton, h12]
  refine x_cVI (As := []) (k_X6_thrown l G Y mo rf tx sz nw tr dy ac kp ik td ch sp ou) cw_L_116 [12] 12 0 E.M E.hK E.hZ hw hl.1 hs (by decide) h12 rfl rfl ⟨by omega, by omega⟩ hf rfl rfl (Nat.le_of_ble_eq_true rfl) d1 ?_
  rintro r1 sg ⟨rfl, rfl⟩ H locs hw
  rw [xPut_same hs] at hw
  refine lv_iload hx hb d4 (lv_at hl 1 rfl) ?_
  refine lv_icmp_eq (tgt := t + 11) hx hb d6 (by omega) (fun _ => ?_) (fun z => absurd hk.symm z)
  refine lv_iload hx hb d11 (lv_at hl 1 rfl) ?_
  have goOut : ∀ ls, lv_has ls 7 [(6, .int r), (5, .int k), (0, .ref b), (1, .ref xo), (2, .ref mo), (3, .ref ot), (4, .int (nI i))] → W p l e R s m args below meth c H locs cells slots Q (F0 m (t + 28) ls []) := by
    intro ls hl
    refine lv_goto (tgt := 2113) hx hb d28 ht ?_
    exact K _ _ _ hw (lv_sub hl [2, 3, 4, 5, 6] rfl)
  refine lv_if_ne (tgt := t + 28) hx hb d13 (by omega) (fun _ => goOut _ hl) (fun z => ?_)
  have z2 : k = 0 := z
  have hrf : rf = 0 := nI_injN (hk.symm.trans z2) (by omega) (by decide)
  refine lv_aload_n hx hb d16 rfl (lv_at hl 5 rfl) ?_
  refine lv_iconst (v := nI 0) hx hb d17 (by decide) ?_
  refine x_lald E.M E.hK hw 0 0 h0 rfl (by decide) (by decide) d18 ?_
  refine lv_iload hx hb d19 (lv_at hl 0 rfl) ?_
  refine lv_i2l (v := r.toInt64) hx hb d21 rfl ?_
  rw [hv hrf]
  refine W.lcmp hx hb d22 ?_
  rw [lg_cmp_self]
  exact lv_if_eq (tgt := t + 28) hx hb d23 (by omega) (fun _ => goOut _ hl) (fun z => absurd rfl z)
end LAWT
