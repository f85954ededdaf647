/-! the law's loop -/
theorem and63 (x : Int32) : ∃ j : Nat, x &&& nI 63 = nI j ∧ j < 64 := by
  refine ⟨x.toBitVec.toNat % 64, ?_, Nat.mod_lt _ (by decide)⟩
  apply Int32.toBitVec_inj.mp
  apply BitVec.eq_of_toNat_eq
  show (x.toBitVec &&& 63#32).toNat = (BitVec.ofNat 32 (x.toBitVec.toNat % 64)).toNat
  rw [BitVec.toNat_and, BitVec.toNat_ofNat, BitVec.toNat_ofNat, show 63 % 2 ^ 32 = 2 ^ 6 - 1 from rfl, Nat.and_two_pow_sub_one_eq_mod]
  omega
theorem law_len {L : Nat} (hL : L ≤ 3072) : (nI L - nI 6).toInt = (L : Int) - 6 := by
  rw [Int32.toInt_sub, nI_toInt (by omega), nI_toInt (by decide)]
  rw [Int.bmod_eq_of_le (by omega) (by omega)]
  rfl
section LAWLP
variable {p : Program} {l : Launch} {e : Env} {R : Room} {s : State} {m : MethodId} {args : Array Value} {below : List Frame} {meth : Method} {c : Code} {H : Heap} {locs : List Loc} {cells slots : Nat} {Q : State → Prop}
variable {ls : Array Slot} {G : va_G} {Y : Nat → Nat} {A : Nat → Prop} {b L i xo h0 h1 hh hb2 sl a0 a1 sv tz az mo tx nw tr dy kp ik td ch ot : Nat} {xs : Nat → Int32}

set_option maxHeartbeats 8000000 in
theorem law_loop (E : LE p l R s m args c G Y A b L xs) (hcs : 10000 ≤ R.cells ∧ 100000 ≤ R.slots) (hend : ∀ (segs : List va_W) (H : Heap) (locs : List Loc) (ls : Array Slot) (cells slots : Nat), cells ≤ 6000 → slots ≤ 50000 → xW G A s.heap segs H locs → W p l e R s m args below meth c H locs cells slots Q (F0 m 2119 ls [])) :
    ∀ (fu i cells slots : Nat), 4000 ≤ i + fu → i ≤ L + 6 → cells ≤ i + 1000 → slots ≤ 6 * i + 10000 → ∀ (f : Nat → Int64) (ρ : Nat → Nat) (γ : Nat → Nat → Nat) (κ : Nat → Nat) (γ1 : Nat → Nat → Nat) (nx : Nat) (ct : Nat) (rr : Nat → Nat → Nat) (gg : Nat → Nat → Nat → Nat) (κ0 : Nat → Nat) (δ0 : Nat → Nat → Nat) (κ1 : Nat → Nat) (δ1 : Nat → Nat → Nat) (fl : Nat → Int32) (n : Nat) (lt : Nat → Nat) (lf : Nat → Nat) (tk : Nat → Int32) (bt : Nat → Int32) (bw : Int32) (rf : Nat) (φt : Nat → Nat) (φ : Nat → Nat) (kf : Nat → Nat) (tr1 : Nat → Nat) (ch1 : Nat → Nat) (sp : Nat) (ou : Nat) (dia : Nat → Nat → Nat), LJ ρ n lt nx ct rr dia φ fl κ0 kf κ1 → ∀ (H : Heap) (locs : List Loc) (ls : Array Slot), xW G A s.heap (jW Y xo h0 h1 hh hb2 sl a0 a1 sv tz az mo tx nw tr dy kp ik td ch ot f ρ γ κ γ1 nx ct rr gg κ0 δ0 κ1 δ1 fl n lt lf tk bt bw rf φt φ kf tr1 ch1 sp ou dia) H locs → lv_has ls 7 [(0, .ref b), (1, .ref xo), (2, .ref mo), (3, .ref ot), (4, .int (nI i))] → W p l e R s m args below meth c H locs cells slots Q (F0 m 23 ls []) := by
  obtain ⟨hx, hb, -⟩ := id E.M
  have hLL := E.hL
  intro fu
  induction fu with
  | zero => intro i cells slots h1 h2; omega
  | succ fu ih =>
    intro i cells slots hq1 hq2 hq3 hq4 f ρ γ κ γ1 nx ct rr gg κ0 δ0 κ1 δ1 fl n lt lf tk bt bw rf φt φ kf tr1 ch1 sp ou dia hJ H locs ls hw hl
    refine lv_iload hx hb dL_law_23 (lv_at hl 4 rfl) ?_
    refine lv_aload_n hx hb dL_law_25 rfl (lv_at hl 0 rfl) ?_
    refine va_slen hx hb E.hX E.hbl E.hbA hw.2.2.1 dL_law_26 ?_
    refine lv_bipush (v := nI 6) hx hb dL_law_27 (by decide) ?_
    refine lv_isub hx hb dL_law_29 ?_
    refine lv_icmp_gt (tgt := 2119) hx hb dL_law_30 (by decide) (fun _ => hend _ _ _ _ _ _ (by omega) (by omega) hw) (fun z => ?_)
    have hi : i + 6 ≤ L := by
      have e1 := law_len hLL
      have e2 : (nI i).toInt = (i : Int) := nI_toInt (by omega)
      have e3 : (Int32.ofNat L - nI 6).toInt = (L : Int) - 6 := e1
      have z2 : ¬ ((L : Int) - 6 < (i : Int)) := fun q => z (Int32.lt_iff_toInt_lt.mpr (by rw [e2, e3]; exact q))
      omega
    have KK : LK p l e R s m args below meth c G Y A b i xo h0 h1 hh hb2 sl a0 a1 sv tz az mo tx nw tr dy kp ik td ch ot (cells + 1) (slots + 6) Q := by
      intro f ρ γ κ γ1 nx ct rr gg κ0 δ0 κ1 δ1 fl n lt lf tk bt bw rf φt φ kf tr1 ch1 sp ou dia hJ H locs ls hw hl
      refine lv_iinc (v := nI (i + 6)) (lv' := [(4, .int (nI (i + 6))), (0, .ref b), (1, .ref xo), (2, .ref mo), (3, .ref ot)]) hx hb dL_law_2113 hl (k := 4) rfl (by rw [show (6 : Int) = ((6 : Nat) : Int) from rfl, nI_inc]) (by decide) rfl (fun ls hl => ?_)
      refine lv_goto (tgt := 23) hx hb dL_law_2116 (by decide) ?_
      exact ih (i + 6) (cells + 1) (slots + 6) (by omega) (by omega) (by omega) (by omega) _ _ _ _ _ _ _ _ _ _ _ _ _ _ _ _ _ _ _ _ _ _ _ _ _ _ _ _ _ hJ _ _ _ hw (lv_sub hl [1, 2, 3, 4, 0] rfl)
    have hf : cells + 1 ≤ R.cells ∧ slots + 6 ≤ R.slots := ⟨by omega, by omega⟩
    refine lv_aload_n hx hb dL_law_33 rfl (lv_at hl 0 rfl) ?_
    refine lv_iload hx hb dL_law_34 (lv_at hl 4 rfl) ?_
    refine law_rd E (A1 := A) (k := i) hw (by omega) rfl dL_law_36 ?_
    refine lv_bipush (v := nI 63) hx hb dL_law_37 (by decide) ?_
    refine lv_iand hx hb dL_law_39 ?_
    obtain ⟨j, hj, hj64⟩ := and63 (xs i)
    rw [hj]
    clear hj
    by_cases hj33 : j < 33
    · match j, hj33 with
      | 0, _ => exact lv_tableIn (tgt := 188) hx hb dL_law_40 (by decide) (by decide) rfl (by decide) (step_append E hi hf _ _ _ _ _ _ _ _ _ _ _ _ _ _ _ _ _ _ _ _ _ _ _ _ _ _ _ _ _ hJ hw hl KK)
      | 1, _ => exact lv_tableIn (tgt := 244) hx hb dL_law_40 (by decide) (by decide) rfl (by decide) (step_clearText E hi hf _ _ _ _ _ _ _ _ _ _ _ _ _ _ _ _ _ _ _ _ _ _ _ _ _ _ _ _ _ hJ hw hl KK)
      | 2, _ => exact lv_tableIn (tgt := 257) hx hb dL_law_40 (by decide) (by decide) rfl (by decide) (step_errorPosition E hi hf _ _ _ _ _ _ _ _ _ _ _ _ _ _ _ _ _ _ _ _ _ _ _ _ _ _ _ _ _ hJ hw hl KK)
      | 3, _ => exact lv_tableIn (tgt := 270) hx hb dL_law_40 (by decide) (by decide) rfl (by decide) (step_load E hi hf _ _ _ _ _ _ _ _ _ _ _ _ _ _ _ _ _ _ _ _ _ _ _ _ _ _ _ _ _ hJ hw hl KK)
      | 4, _ => exact lv_tableIn (tgt := 314) hx hb dL_law_40 (by decide) (by decide) rfl (by decide) (step_about E hi hf _ _ _ _ _ _ _ _ _ _ _ _ _ _ _ _ _ _ _ _ _ _ _ _ _ _ _ _ _ hJ hw hl KK)
      | 5, _ => exact lv_tableIn (tgt := 370) hx hb dL_law_40 (by decide) (by decide) rfl (by decide) (step_kind E hi hf _ _ _ _ _ _ _ _ _ _ _ _ _ _ _ _ _ _ _ _ _ _ _ _ _ _ _ _ _ hJ hw hl KK)
      | 6, _ => exact lv_tableIn (tgt := 438) hx hb dL_law_40 (by decide) (by decide) rfl (by decide) (step_bidder E hi hf _ _ _ _ _ _ _ _ _ _ _ _ _ _ _ _ _ _ _ _ _ _ _ _ _ _ _ _ _ hJ hw hl KK)
      | 7, _ => exact lv_tableIn (tgt := 506) hx hb dL_law_40 (by decide) (by decide) rfl (by decide) (step_demand E hi hf _ _ _ _ _ _ _ _ _ _ _ _ _ _ _ _ _ _ _ _ _ _ _ _ _ _ _ _ _ hJ hw hl KK)
      | 8, _ => exact lv_tableIn (tgt := 574) hx hb dL_law_40 (by decide) (by decide) rfl (by decide) (step_pack E hi hf _ _ _ _ _ _ _ _ _ _ _ _ _ _ _ _ _ _ _ _ _ _ _ _ _ _ _ _ _ hJ hw hl KK)
      | 9, _ => exact lv_tableIn (tgt := 654) hx hb dL_law_40 (by decide) (by decide) rfl (by decide) (step_setting E hi hf _ _ _ _ _ _ _ _ _ _ _ _ _ _ _ _ _ _ _ _ _ _ _ _ _ _ _ _ _ hJ hw hl KK)
      | 10, _ => exact lv_tableIn (tgt := 710) hx hb dL_law_40 (by decide) (by decide) rfl (by decide) (step_offer E hi hf _ _ _ _ _ _ _ _ _ _ _ _ _ _ _ _ _ _ _ _ _ _ _ _ _ _ _ _ _ hJ hw hl KK)
      | 11, _ => exact lv_tableIn (tgt := 790) hx hb dL_law_40 (by decide) (by decide) rfl (by decide) (step_price E hi hf _ _ _ _ _ _ _ _ _ _ _ _ _ _ _ _ _ _ _ _ _ _ _ _ _ _ _ _ _ hJ hw hl KK)
      | 12, _ => exact lv_tableIn (tgt := 858) hx hb dL_law_40 (by decide) (by decide) rfl (by decide) (step_join E hi hf _ _ _ _ _ _ _ _ _ _ _ _ _ _ _ _ _ _ _ _ _ _ _ _ _ _ _ _ _ hJ hw hl KK)
      | 13, _ => exact lv_tableIn (tgt := 926) hx hb dL_law_40 (by decide) (by decide) rfl (by decide) (step_value E hi hf _ _ _ _ _ _ _ _ _ _ _ _ _ _ _ _ _ _ _ _ _ _ _ _ _ _ _ _ _ hJ hw hl KK)
      | 14, _ => exact lv_tableIn (tgt := 1006) hx hb dL_law_40 (by decide) (by decide) rfl (by decide) (step_ask E hi hf _ _ _ _ _ _ _ _ _ _ _ _ _ _ _ _ _ _ _ _ _ _ _ _ _ _ _ _ _ hJ hw hl KK)
      | 15, _ => exact lv_tableIn (tgt := 1086) hx hb dL_law_40 (by decide) (by decide) rfl (by decide) (step_bid E hi hf _ _ _ _ _ _ _ _ _ _ _ _ _ _ _ _ _ _ _ _ _ _ _ _ _ _ _ _ _ hJ hw hl KK)
      | 16, _ => exact lv_tableIn (tgt := 1142) hx hb dL_law_40 (by decide) (by decide) rfl (by decide) (step_close E hi hf _ _ _ _ _ _ _ _ _ _ _ _ _ _ _ _ _ _ _ _ _ _ _ _ _ _ _ _ _ hJ hw hl KK)
      | 17, _ => exact lv_tableIn (tgt := 1186) hx hb dL_law_40 (by decide) (by decide) rfl (by decide) (step_add E hi hf _ _ _ _ _ _ _ _ _ _ _ _ _ _ _ _ _ _ _ _ _ _ _ _ _ _ _ _ _ hJ hw hl KK)
      | 18, _ => exact lv_tableIn (tgt := 1290) hx hb dL_law_40 (by decide) (by decide) rfl (by decide) (step_drop E hi hf _ _ _ _ _ _ _ _ _ _ _ _ _ _ _ _ _ _ _ _ _ _ _ _ _ _ _ _ _ hJ hw hl KK)
      | 19, _ => exact lv_tableIn (tgt := 1358) hx hb dL_law_40 (by decide) (by decide) rfl (by decide) (step_set E hi hf _ _ _ _ _ _ _ _ _ _ _ _ _ _ _ _ _ _ _ _ _ _ _ _ _ _ _ _ _ hJ hw hl KK)
      | 20, _ => exact lv_tableIn (tgt := 1426) hx hb dL_law_40 (by decide) (by decide) rfl (by decide) (step_undo E hi hf _ _ _ _ _ _ _ _ _ _ _ _ _ _ _ _ _ _ _ _ _ _ _ _ _ _ _ _ _ hJ hw hl KK)
      | 21, _ => exact lv_tableIn (tgt := 1470) hx hb dL_law_40 (by decide) (by decide) rfl (by decide) (step_best E hi hf _ _ _ _ _ _ _ _ _ _ _ _ _ _ _ _ _ _ _ _ _ _ _ _ _ _ _ _ _ hJ hw hl KK)
      | 22, _ => exact lv_tableIn (tgt := 1483) hx hb dL_law_40 (by decide) (by decide) rfl (by decide) (step_gets E hi hf _ _ _ _ _ _ _ _ _ _ _ _ _ _ _ _ _ _ _ _ _ _ _ _ _ _ _ _ _ hJ hw hl KK)
      | 23, _ => exact lv_tableIn (tgt := 1539) hx hb dL_law_40 (by decide) (by decide) rfl (by decide) (step_pays E hi hf _ _ _ _ _ _ _ _ _ _ _ _ _ _ _ _ _ _ _ _ _ _ _ _ _ _ _ _ _ hJ hw hl KK)
      | 24, _ => exact lv_tableIn (tgt := 1595) hx hb dL_law_40 (by decide) (by decide) rfl (by decide) (step_oneMore E hi hf _ _ _ _ _ _ _ _ _ _ _ _ _ _ _ _ _ _ _ _ _ _ _ _ _ _ _ _ _ hJ hw hl KK)
      | 25, _ => exact lv_tableIn (tgt := 1651) hx hb dL_law_40 (by decide) (by decide) rfl (by decide) (step_leastMissed E hi hf _ _ _ _ _ _ _ _ _ _ _ _ _ _ _ _ _ _ _ _ _ _ _ _ _ _ _ _ _ hJ hw hl KK)
      | 26, _ => exact lv_tableIn (tgt := 1664) hx hb dL_law_40 (by decide) (by decide) rfl (by decide) (step_wouldAsk E hi hf _ _ _ _ _ _ _ _ _ _ _ _ _ _ _ _ _ _ _ _ _ _ _ _ _ _ _ _ _ hJ hw hl KK)
      | 27, _ => exact lv_tableIn (tgt := 1732) hx hb dL_law_40 (by decide) (by decide) rfl (by decide) (step_roundsLeft E hi hf _ _ _ _ _ _ _ _ _ _ _ _ _ _ _ _ _ _ _ _ _ _ _ _ _ _ _ _ _ hJ hw hl KK)
      | 28, _ => exact lv_tableIn (tgt := 1745) hx hb dL_law_40 (by decide) (by decide) rfl (by decide) (step_endPrice E hi hf _ _ _ _ _ _ _ _ _ _ _ _ _ _ _ _ _ _ _ _ _ _ _ _ _ _ _ _ _ hJ hw hl KK)
      | 29, _ => exact lv_tableIn (tgt := 1801) hx hb dL_law_40 (by decide) (by decide) rfl (by decide) (step_runScript E hi hf _ _ _ _ _ _ _ _ _ _ _ _ _ _ _ _ _ _ _ _ _ _ _ _ _ _ _ _ _ hJ hw hl KK)
      | 30, _ => exact lv_tableIn (tgt := 1901) hx hb dL_law_40 (by decide) (by decide) rfl (by decide) (step_simulate E hi hf _ _ _ _ _ _ _ _ _ _ _ _ _ _ _ _ _ _ _ _ _ _ _ _ _ _ _ _ _ hJ hw hl KK)
      | 31, _ => exact lv_tableIn (tgt := 2001) hx hb dL_law_40 (by decide) (by decide) rfl (by decide) (step_save E hi hf _ _ _ _ _ _ _ _ _ _ _ _ _ _ _ _ _ _ _ _ _ _ _ _ _ _ _ _ _ hJ hw hl KK)
      | 32, _ => exact lv_tableIn (tgt := 2057) hx hb dL_law_40 (by decide) (by decide) rfl (by decide) (step_restore E hi hf _ _ _ _ _ _ _ _ _ _ _ _ _ _ _ _ _ _ _ _ _ _ _ _ _ _ _ _ _ hJ hw hl KK)
      | q + 33, h => exact absurd h (by omega)
    · refine lv_tableOut (tgt := 2113) hx hb dL_law_40 (Or.inr ?_) (by decide) ?_
      · rw [nI_toInt (by omega)]; omega
      · exact W_widen (Nat.le_add_right _ _) (Nat.le_add_right _ _) (KK _ _ _ _ _ _ _ _ _ _ _ _ _ _ _ _ _ _ _ _ _ _ _ _ _ _ _ _ _ hJ _ _ _ hw hl)
end LAWLP
