/-! the law's loop: two objects of the same state -/
section LAWLP
variable {p : Program} {l : Launch} {e : Env} {R : Room} {s : State} {m : MethodId} {args : Array Value} {below : List Frame} {meth : Method} {c : Code} {Q : State → Prop}
variable {G : va_G} {Y : Nat → Nat} {A : Nat → Prop} {b L xo h0 h1 hh hb2 sl a0 a1 sv tz az xo2 h02 h12 hh2 hb22 sl2 a02 a12 sv2 tz2 az2 : Nat} {xs : Nat → Int32}
set_option maxHeartbeats 8000000 in
set_option maxRecDepth 20000 in
theorem law_loop (hfl : l.stackTraces = false) (M : XM p m c cL_law 10 s args RL) (hK : xK G Y s) (hZ : xZ Y A s s.heap) (hN : xN s) (hX : va_X b L xs s s.heap) (hbl : b < s.heap.size) (hbA : ¬ A b) (hL : L ≤ 260) (hRR : 1000 ≤ R.frames ∧ 10000 ≤ R.locals) (hcs : 30000 ≤ R.cells ∧ 200000 ≤ R.slots)
    (hend : ∀ (segs : List va_W) (H : Heap) (locs : List Loc) (ls : Array Slot) (cells slots : Nat), cells ≤ 30000 → slots ≤ 200000 → xW G A s.heap segs H locs → lv_has ls 10 [(3, .int (nI 1))] → W p l e R s m args below meth c H locs cells slots Q (F0 m 242 ls [])) :
    ∀ (fu i : Nat), 28 < i + fu → i ≤ 28 → ∀ (ρ : Nat → Nat) (nx : Nat) (ct : Nat) (rr : Nat → Nat → Nat) (κ0 : Nat → Nat) (κ1 : Nat → Nat) (fl : Nat → Int32) (tn : Nat) (lt : Nat → Nat) (γ : Nat → Nat → Nat) (κ : Nat → Nat) (γ1 : Nat → Nat → Nat) (gg : Nat → Nat → Nat → Nat) (δ0 : Nat → Nat → Nat) (δ1 : Nat → Nat → Nat) (lf : Nat → Nat) (tk : Nat → Int32) (bt : Nat → Int32) (bw : Int32) (γ2 : Nat → Nat → Nat) (κ2 : Nat → Nat) (γ12 : Nat → Nat → Nat) (gg2 : Nat → Nat → Nat → Nat) (δ02 : Nat → Nat → Nat) (δ12 : Nat → Nat → Nat) (lf2 : Nat → Nat) (tk2 : Nat → Int32) (bt2 : Nat → Int32) (bw2 : Int32), OK (121 * i) ρ nx ct rr κ0 κ1 fl tn lt → ∀ (H : Heap) (locs : List Loc) (ls : Array Slot), xW G A s.heap (oW Y xo h0 h1 hh hb2 sl a0 a1 sv tz az ρ nx ct rr κ0 κ1 fl tn lt γ κ γ1 gg δ0 δ1 lf tk bt bw ++ oW Y xo2 h02 h12 hh2 hb22 sl2 a02 a12 sv2 tz2 az2 ρ nx ct rr κ0 κ1 fl tn lt γ2 κ2 γ12 gg2 δ02 δ12 lf2 tk2 bt2 bw2) H locs → lv_has ls 10 [(0, .ref b), (1, .ref xo), (2, .ref xo2), (3, .int (nI 1)), (4, .int (nI i))] → W p l e R s m args below meth c H locs (418 + 704 * i) (5738 + 4224 * i) Q (F0 m 21 ls []) := by
  obtain ⟨hx, hb, -⟩ := id M
  intro fu
  induction fu with
  | zero => intro i q1 q2; omega
  | succ fu ih =>
    intro i hq1 hq2 ρ nx ct rr κ0 κ1 fl tn lt γ κ γ1 gg δ0 δ1 lf tk bt bw γ2 κ2 γ12 gg2 δ02 δ12 lf2 tk2 bt2 bw2 hO H locs ls hw hl
    refine lv_iload hx hb dL_law_21 (lv_at hl 4 rfl) ?_
    refine lv_bipush (v := nI 28) hx hb dL_law_23 (by decide) ?_
    refine x_cge M (tgt := 242) (by omega) (by decide) dL_law_25 (by decide) (fun c_i => hend _ _ _ _ _ _ (by omega) (by omega) hw (lv_sub hl [3] rfl)) (fun c_i => ?_)
    refine lv_iload_n hx hb dL_law_28 rfl (lv_at hl 3 rfl) ?_
    refine x_zeq M (tgt := 242) (by decide) dL_law_29 (by decide) (fun c_1 => by exfalso; exact absurd c_1 (by decide)) (fun c_1 => ?_)
    refine lv_aload_n hx hb dL_law_32 rfl (lv_at hl 0 rfl) ?_
    refine lv_iconst (v := (nI 2)) hx hb dL_law_33 (by decide) ?_
    refine lv_iload hx hb dL_law_34 (lv_at hl 4 rfl) ?_
    refine x_imul M (n := 2 * i) dL_law_36 (by omega) ?_
    refine x_cX (k := 2 * i) (c_cell l G Y (by omega) (by omega)) M hK hZ hN hX hbl hbA hw hl.1 ⟨by omega, by omega⟩ ⟨by omega, by omega⟩ rfl (Nat.le_of_ble_eq_true rfl) dL_law_37 (fun x hxx H locs hw => ?_)
    refine lv_istore (lv' := [(5, .int (nI x)), (0, .ref b), (1, .ref xo), (2, .ref xo2), (3, .int (nI 1)), (4, .int (nI i))]) hx hb dL_law_40 hl (by decide) rfl (fun ls hl => ?_)
    refine lv_aload_n hx hb dL_law_42 rfl (lv_at hl 1 rfl) ?_
    refine lv_iconst (v := (nI 2)) hx hb dL_law_43 (by decide) ?_
    refine lv_iload hx hb dL_law_44 (lv_at hl 5 rfl) ?_
    refine x_imul M (n := 2 * i) dL_law_46 (by omega) ?_
    refine lv_iconst (v := (nI 1)) hx hb dL_law_47 (by decide) ?_
    refine x_iadd M (n := 1 + 2 * i) dL_law_48 (by omega) ?_
    refine x_cX (k := 1 + 2 * i) (c_cell l G Y (by omega) (by omega)) M hK hZ hN hX hbl hbA hw hl.1 ⟨by omega, by omega⟩ ⟨by omega, by omega⟩ rfl (Nat.le_of_ble_eq_true rfl) dL_law_49 (fun y hyy H locs hw => ?_)
    refine lv_istore (lv' := [(6, .int (nI y)), (5, .int (nI x)), (0, .ref b), (1, .ref xo), (2, .ref xo2), (3, .int (nI 1)), (4, .int (nI i))]) hx hb dL_law_52 hl (by decide) rfl (fun ls hl => ?_)
    refine lv_aload_n hx hb dL_law_54 rfl (lv_at hl 3 rfl) ?_
    refine lv_iload hx hb dL_law_55 (lv_at hl 1 rfl) ?_
    refine x_cSG (As := [.ref xo, .int (nI x)]) (c_L_refuses l hfl G Y xo h0 h1 hh hb2 sl a0 a1 sv tz az ρ nx ct rr κ0 κ1 fl tn lt γ κ γ1 gg δ0 δ1 lf tk bt bw (121 * i) x hO (by omega) hxx) cw_L_234 [0, 1, 2, 3, 4, 5, 6, 7, 8, 9, 10] M hK hZ hN hw hl.1 rfl (by decide) ⟨by omega, by omega⟩ ⟨by omega, by omega⟩ rfl rfl (Nat.le_of_ble_eq_true rfl) dL_law_57 (fun r sg h_2 ha H locs hw => ?_)
    obtain ⟨rfl, rfl⟩ := h_2
    have hw : xW G A s.heap (oW Y xo h0 h1 hh hb2 sl a0 a1 sv tz az ρ nx ct rr κ0 κ1 fl tn lt γ κ γ1 gg δ0 δ1 lf tk bt bw ++ oW Y xo2 h02 h12 hh2 hb22 sl2 a02 a12 sv2 tz2 az2 ρ nx ct rr κ0 κ1 fl tn lt γ2 κ2 γ12 gg2 δ02 δ12 lf2 tk2 bt2 bw2) H locs := hw
    refine lv_if_eq (tgt := 105) hx hb dL_law_60 (by decide) (fun z => absurd z (by decide)) (fun _ => ?_)
    refine lv_aload_n hx hb dL_law_63 rfl (lv_at hl 3 rfl) ?_
    refine lv_iload hx hb dL_law_64 (lv_at hl 1 rfl) ?_
    refine lv_iload hx hb dL_law_66 (lv_at hl 0 rfl) ?_
    obtain ⟨ra, ρa, nxa, cta, rra, κ0a, κ1a, fla, tna, lta, hOa, hact⟩ := d_act ρ nx ct rr κ0 κ1 fl tn lt x y hO hxx hyy
    refine x_cSG (As := [.ref xo, .int (nI x), .int (nI y)]) (hact l hfl G Y xo h0 h1 hh hb2 sl a0 a1 sv tz az γ κ γ1 gg δ0 δ1 lf tk bt bw) cw_L_238 [0, 1, 2, 3, 4, 5, 6, 7, 8, 9, 10] M hK hZ hN hw hl.1 rfl (by decide) ⟨by omega, by omega⟩ ⟨by omega, by omega⟩ rfl rfl (Nat.le_of_ble_eq_true rfl) dL_law_68 (fun r sg h_13 ha H locs hw => ?_)
    obtain ⟨rfl, γ3, κ4, γ15, gg6, δ07, δ18, lf9, tk10, bt11, bw12, rfl⟩ := h_13
    have hw : xW G A s.heap (oW Y xo h0 h1 hh hb2 sl a0 a1 sv tz az ρa nxa cta rra κ0a κ1a fla tna lta γ3 κ4 γ15 gg6 δ07 δ18 lf9 tk10 bt11 bw12 ++ oW Y xo2 h02 h12 hh2 hb22 sl2 a02 a12 sv2 tz2 az2 ρ nx ct rr κ0 κ1 fl tn lt γ2 κ2 γ12 gg2 δ02 δ12 lf2 tk2 bt2 bw2) H locs := hw
    refine lv_aload_n hx hb dL_law_71 rfl (lv_at hl 4 rfl) ?_
    refine lv_iload hx hb dL_law_72 (lv_at hl 1 rfl) ?_
    refine lv_iload hx hb dL_law_74 (lv_at hl 0 rfl) ?_
    refine x_cSG (As := [.ref xo2, .int (nI x), .int (nI y)]) (hact l hfl G Y xo2 h02 h12 hh2 hb22 sl2 a02 a12 sv2 tz2 az2 γ2 κ2 γ12 gg2 δ02 δ12 lf2 tk2 bt2 bw2) cw_L_238 [11, 12, 13, 14, 15, 16, 17, 18, 19, 20, 21] M hK hZ hN hw hl.1 rfl (by decide) ⟨by omega, by omega⟩ ⟨by omega, by omega⟩ rfl rfl (Nat.le_of_ble_eq_true rfl) dL_law_76 (fun r sg h_24 ha H locs hw => ?_)
    obtain ⟨rfl, γ14, κ15, γ116, gg17, δ018, δ119, lf20, tk21, bt22, bw23, rfl⟩ := h_24
    have hw : xW G A s.heap (oW Y xo h0 h1 hh hb2 sl a0 a1 sv tz az ρa nxa cta rra κ0a κ1a fla tna lta γ3 κ4 γ15 gg6 δ07 δ18 lf9 tk10 bt11 bw12 ++ oW Y xo2 h02 h12 hh2 hb22 sl2 a02 a12 sv2 tz2 az2 ρa nxa cta rra κ0a κ1a fla tna lta γ14 κ15 γ116 gg17 δ018 δ119 lf20 tk21 bt22 bw23) H locs := hw
    refine lv_icmp_ne (tgt := 105) hx hb dL_law_79 (by decide) (fun z => absurd rfl z) (fun _ => ?_)
    refine lv_aload_n hx hb dL_law_82 rfl (lv_at hl 3 rfl) ?_
    refine lv_iload hx hb dL_law_83 (lv_at hl 0 rfl) ?_
    refine x_cSG (As := [.ref xo, .int (nI y)]) (c_L_refuses l hfl G Y xo h0 h1 hh hb2 sl a0 a1 sv tz az ρa nxa cta rra κ0a κ1a fla tna lta γ3 κ4 γ15 gg6 δ07 δ18 lf9 tk10 bt11 bw12 (121 * i + 121) y hOa (by omega) hyy) cw_L_234 [0, 1, 2, 3, 4, 5, 6, 7, 8, 9, 10] M hK hZ hN hw hl.1 rfl (by decide) ⟨by omega, by omega⟩ ⟨by omega, by omega⟩ rfl rfl (Nat.le_of_ble_eq_true rfl) dL_law_85 (fun r sg h_25 ha H locs hw => ?_)
    obtain ⟨rfl, rfl⟩ := h_25
    have hw : xW G A s.heap (oW Y xo h0 h1 hh hb2 sl a0 a1 sv tz az ρa nxa cta rra κ0a κ1a fla tna lta γ3 κ4 γ15 gg6 δ07 δ18 lf9 tk10 bt11 bw12 ++ oW Y xo2 h02 h12 hh2 hb22 sl2 a02 a12 sv2 tz2 az2 ρa nxa cta rra κ0a κ1a fla tna lta γ14 κ15 γ116 gg17 δ018 δ119 lf20 tk21 bt22 bw23) H locs := hw
    refine lv_if_eq (tgt := 105) hx hb dL_law_88 (by decide) (fun z => absurd z (by decide)) (fun _ => ?_)
    refine lv_aload_n hx hb dL_law_91 rfl (lv_at hl 3 rfl) ?_
    refine lv_aload_n hx hb dL_law_92 rfl (lv_at hl 4 rfl) ?_
    refine lv_iload hx hb dL_law_93 (lv_at hl 1 rfl) ?_
    refine x_cSG (As := [.ref xo, .ref xo2, .int (nI x)]) (c_L_alike l hfl G Y xo h0 h1 hh hb2 sl a0 a1 sv tz az ρa nxa cta rra κ0a κ1a fla tna lta γ3 κ4 γ15 gg6 δ07 δ18 lf9 tk10 bt11 bw12 xo2 h02 h12 hh2 hb22 sl2 a02 a12 sv2 tz2 az2 γ14 κ15 γ116 gg17 δ018 δ119 lf20 tk21 bt22 bw23 (121 * i + 121) x hOa hxx) cw_L_241 (List.range 22) M hK hZ hN hw hl.1 (allI_getN rfl) allI_nd ⟨by omega, by omega⟩ ⟨by omega, by omega⟩ rfl rfl (Nat.le_of_ble_eq_true rfl) dL_law_95 (fun r sg h_30 ha H locs hw => ?_)
    obtain ⟨rfl, κ26, γ27, κ28, γ29, rfl⟩ := h_30
    rw [xPut_allN (n := 22) rfl ha] at hw
    have hw : xW G A s.heap (oW Y xo h0 h1 hh hb2 sl a0 a1 sv tz az ρa nxa cta rra κ0a κ1a fla tna lta γ3 κ26 γ27 gg6 δ07 δ18 lf9 tk10 bt11 bw12 ++ oW Y xo2 h02 h12 hh2 hb22 sl2 a02 a12 sv2 tz2 az2 ρa nxa cta rra κ0a κ1a fla tna lta γ14 κ28 γ29 gg17 δ018 δ119 lf20 tk21 bt22 bw23) H locs := hw
    refine lv_if_eq (tgt := 105) hx hb dL_law_98 (by decide) (fun z => absurd z (by decide)) (fun _ => ?_)
    refine lv_iconst (v := (nI 1)) hx hb dL_law_101 (by decide) ?_
    refine lv_goto (tgt := 106) hx hb dL_law_102 (by decide) ?_
    refine lv_istore_n (lv' := [(3, .int (nI 1)), (6, .int (nI y)), (5, .int (nI x)), (0, .ref b), (1, .ref xo), (2, .ref xo2), (4, .int (nI i))]) hx hb dL_law_106 rfl hl (by decide) rfl (fun ls hl => ?_)
    have L236 : ∀ (ctb : Nat) (rrb : Nat → Nat → Nat) (γ : Nat → Nat → Nat) (κ : Nat → Nat) (γ1 : Nat → Nat → Nat) (gg : Nat → Nat → Nat → Nat) (δ0 : Nat → Nat → Nat) (δ1 : Nat → Nat → Nat) (lf : Nat → Nat) (tk : Nat → Int32) (bt : Nat → Int32) (bw : Int32) (γ2 : Nat → Nat → Nat) (κ2 : Nat → Nat) (γ12 : Nat → Nat → Nat) (gg2 : Nat → Nat → Nat → Nat) (δ02 : Nat → Nat → Nat) (δ12 : Nat → Nat → Nat) (lf2 : Nat → Nat) (tk2 : Nat → Int32) (bt2 : Nat → Int32) (bw2 : Int32), OK (121 * (1 + i)) ρa nxa ctb rrb κ0a κ1a fla tna lta → ∀ (H : Heap) (locs : List Loc) (ls : Array Slot), xW G A s.heap (oW Y xo h0 h1 hh hb2 sl a0 a1 sv tz az ρa nxa ctb rrb κ0a κ1a fla tna lta γ κ γ1 gg δ0 δ1 lf tk bt bw ++ oW Y xo2 h02 h12 hh2 hb22 sl2 a02 a12 sv2 tz2 az2 ρa nxa ctb rrb κ0a κ1a fla tna lta γ2 κ2 γ12 gg2 δ02 δ12 lf2 tk2 bt2 bw2) H locs → lv_has ls 10 [(0, .ref b), (1, .ref xo), (2, .ref xo2), (3, .int (nI 1)), (4, .int (nI i))] → W p l e R s m args below meth c H locs (418 + 704 * i + 704) (5738 + 4224 * i + 4224) Q (F0 m 236 ls []) := by
      intro ctb rrb γ κ γ1 gg δ0 δ1 lf tk bt bw γ2 κ2 γ12 gg2 δ02 δ12 lf2 tk2 bt2 bw2 hO2 H locs ls hw hl
      refine lv_iinc (v := nI (1 + i)) (lv' := [(4, .int (nI (1 + i))), (0, .ref b), (1, .ref xo), (2, .ref xo2), (3, .int (nI 1))]) hx hb dL_law_236 hl (k := 4) rfl (by rw [show (1 : Int) = ((1 : Nat) : Int) from rfl, nI_inc]; exact congrArg nI (by omega)) (by decide) rfl (fun ls hl => ?_)
      refine lv_goto (tgt := 21) hx hb dL_law_239 (by decide) ?_
      refine W_widen (k := 418 + 704 * (1 + i)) (n := 5738 + 4224 * (1 + i)) (by omega) (by omega) ?_
      exact ih (1 + i) (by omega) (by omega) _ _ _ _ _ _ _ _ _ _ _ _ _ _ _ _ _ _ _ _ _ _ _ _ _ _ _ _ _ hO2 _ _ _ hw (lv_sub hl [1, 2, 3, 4, 0] rfl)
    refine lv_iload hx hb dL_law_107 (lv_at hl 6 rfl) ?_
    refine lv_iconst (v := (nI 5)) hx hb dL_law_109 (by decide) ?_
    refine x_irem M (n := i % 5) dL_law_110 (by omega) (by omega) (by decide) rfl ?_
    refine lv_iconst (v := (nI 4)) hx hb dL_law_111 (by decide) ?_
    refine x_cne M (tgt := 236) (by omega) (by decide) dL_law_112 (by decide) (fun c_5 => ?_) (fun c_5 => ?_)
    · refine W_widen (k := 418 + 704 * i + 704) (n := 5738 + 4224 * i + 4224) (by omega) (by omega) ?_
      exact L236 cta rra γ3 κ26 γ27 gg6 δ07 δ18 lf9 tk10 bt11 bw12 γ14 κ28 γ29 gg17 δ018 δ119 lf20 tk21 bt22 bw23 (hOa.upB (by omega)) _ _ _ hw (lv_sub hl [3, 4, 5, 0, 6] rfl)
    refine lv_iload_n hx hb dL_law_115 rfl (lv_at hl 0 rfl) ?_
    refine x_zeq M (tgt := 236) (by decide) dL_law_116 (by decide) (fun c_31 => by exfalso; exact absurd c_31 (by decide)) (fun c_31 => ?_)
    refine lv_aload_n hx hb dL_law_119 rfl (lv_at hl 4 rfl) ?_
    refine lv_iload hx hb dL_law_120 (lv_at hl 1 rfl) ?_
    refine x_cSG (As := [.ref xo, .int (nI y)]) (c_L_holds l hfl G Y xo h0 h1 hh hb2 sl a0 a1 sv tz az ρa nxa cta rra κ0a κ1a fla tna lta γ3 κ26 γ27 gg6 δ07 δ18 lf9 tk10 bt11 bw12 (121 * i + 121) y hOa (by omega) hyy) cw_L_245 [0, 1, 2, 3, 4, 5, 6, 7, 8, 9, 10] M hK hZ hN hw hl.1 rfl (by decide) ⟨by omega, by omega⟩ ⟨by omega, by omega⟩ rfl rfl (Nat.le_of_ble_eq_true rfl) dL_law_122 (fun r sg h_42 ha H locs hw => ?_)
    obtain ⟨rfl, γ32, κ33, γ134, gg35, δ036, δ137, lf38, tk39, bt40, bw41, rfl⟩ := h_42
    have hw : xW G A s.heap (oW Y xo h0 h1 hh hb2 sl a0 a1 sv tz az ρa nxa (hCt ρa cta) (hRr ρa nxa rra y) κ0a κ1a fla tna lta γ32 κ33 γ134 gg35 δ036 δ137 lf38 tk39 bt40 bw41 ++ oW Y xo2 h02 h12 hh2 hb22 sl2 a02 a12 sv2 tz2 az2 ρa nxa cta rra κ0a κ1a fla tna lta γ14 κ28 γ29 gg17 δ018 δ119 lf20 tk21 bt22 bw23) H locs := hw
    refine lv_if_eq (tgt := 141) hx hb dL_law_125 (by decide) (fun z => absurd z (by decide)) (fun _ => ?_)
    refine lv_aload_n hx hb dL_law_128 rfl (lv_at hl 5 rfl) ?_
    refine lv_iload hx hb dL_law_129 (lv_at hl 1 rfl) ?_
    refine x_cSG (As := [.ref xo2, .int (nI y)]) (c_L_holds l hfl G Y xo2 h02 h12 hh2 hb22 sl2 a02 a12 sv2 tz2 az2 ρa nxa cta rra κ0a κ1a fla tna lta γ14 κ28 γ29 gg17 δ018 δ119 lf20 tk21 bt22 bw23 (121 * i + 121) y hOa (by omega) hyy) cw_L_245 [11, 12, 13, 14, 15, 16, 17, 18, 19, 20, 21] M hK hZ hN hw hl.1 rfl (by decide) ⟨by omega, by omega⟩ ⟨by omega, by omega⟩ rfl rfl (Nat.le_of_ble_eq_true rfl) dL_law_131 (fun r sg h_53 ha H locs hw => ?_)
    obtain ⟨rfl, γ43, κ44, γ145, gg46, δ047, δ148, lf49, tk50, bt51, bw52, rfl⟩ := h_53
    have hOh := hOa.hld (x := y)
    have hw : xW G A s.heap (oW Y xo h0 h1 hh hb2 sl a0 a1 sv tz az ρa nxa (hCt ρa cta) (hRr ρa nxa rra y) κ0a κ1a fla tna lta γ32 κ33 γ134 gg35 δ036 δ137 lf38 tk39 bt40 bw41 ++ oW Y xo2 h02 h12 hh2 hb22 sl2 a02 a12 sv2 tz2 az2 ρa nxa (hCt ρa cta) (hRr ρa nxa rra y) κ0a κ1a fla tna lta γ43 κ44 γ145 gg46 δ047 δ148 lf49 tk50 bt51 bw52) H locs := hw
    refine lv_if_eq (tgt := 141) hx hb dL_law_134 (by decide) (fun z => absurd z (by decide)) (fun _ => ?_)
    refine lv_iconst (v := (nI 1)) hx hb dL_law_137 (by decide) ?_
    refine lv_goto (tgt := 142) hx hb dL_law_138 (by decide) ?_
    refine lv_istore_n (lv' := [(3, .int (nI 1)), (6, .int (nI y)), (5, .int (nI x)), (0, .ref b), (1, .ref xo), (2, .ref xo2), (4, .int (nI i))]) hx hb dL_law_142 rfl hl (by decide) rfl (fun ls hl => ?_)
    refine lv_iload hx hb dL_law_143 (lv_at hl 2 rfl) ?_
    refine lv_i2l (v := (nI x).toInt64) hx hb dL_law_145 rfl ?_
    refine lv_ldc2 (v := 3434249917) hx hb M.2.2.2.1 (M.2.2.2.2 _ mw_1016) dL_law_146 ?_
    refine lv_lmul hx hb dL_law_149 ?_
    refine lv_ldc2 (v := 821) hx hb M.2.2.2.1 (M.2.2.2.2 _ mw_1017) dL_law_150 ?_
    refine lv_lsub hx hb dL_law_153 ?_
    refine lv_lstore (lv' := [(7, .long (((nI x).toInt64 * 3434249917) - 821)), (3, .int (nI 1)), (6, .int (nI y)), (5, .int (nI x)), (0, .ref b), (1, .ref xo), (2, .ref xo2), (4, .int (nI i))]) hx hb dL_law_154 hl (by decide) rfl (fun ls hl => ?_)
    refine lv_aload_n hx hb dL_law_156 rfl (lv_at hl 5 rfl) ?_
    refine lv_lload hx hb dL_law_157 (lv_at hl 0 rfl) ?_
    refine lv_iconst (v := (nI 1)) hx hb dL_law_159 (by decide) ?_
    refine lv_iload hx hb dL_law_160 (lv_at hl 2 rfl) ?_
    refine lv_bipush (v := (nI 30)) hx hb dL_law_162 (by decide) ?_
    refine x_irem M (n := y % 30) dL_law_164 (by omega) (by omega) (by decide) rfl ?_
    refine x_iadd M (n := 1 + (y % 30)) dL_law_165 rfl ?_
    refine x_cSL2 (As := [.ref xo, .long (((nI x).toInt64 * 3434249917) - 821), .int (nI (1 + (y % 30)))]) (oK_simulate l G Y xo h0 h1 hh hb2 sl a0 a1 sv tz az ρa nxa (hCt ρa cta) (hRr ρa nxa rra y) κ0a κ1a fla tna lta γ32 κ33 γ134 gg35 δ036 δ137 lf38 tk39 bt40 bw41 _ _ (hOh.inv) (by omega)) cl_trySimulate [0, 1, 2, 3, 4, 5, 6, 7, 8, 9, 10] M hK hZ hN hw hl.1 rfl (by decide) ⟨by omega, by omega⟩ ⟨by omega, by omega⟩ rfl rfl (Nat.le_of_ble_eq_true rfl) dL_law_166 (fun r sg h_56 ha H locs hw => ?_)
    obtain ⟨rfl, κ54, γ55, rfl⟩ := h_56
    have hw : xW G A s.heap (oW Y xo h0 h1 hh hb2 sl a0 a1 sv tz az ρa nxa (hCt ρa cta) (hRr ρa nxa rra y) κ0a κ1a fla tna lta γ32 κ54 γ55 gg35 δ036 δ137 lf38 tk39 bt40 bw41 ++ oW Y xo2 h02 h12 hh2 hb22 sl2 a02 a12 sv2 tz2 az2 ρa nxa (hCt ρa cta) (hRr ρa nxa rra y) κ0a κ1a fla tna lta γ43 κ44 γ145 gg46 δ047 δ148 lf49 tk50 bt51 bw52) H locs := hw
    refine lv_istore (lv' := [(9, .int (simV ρa (simR (1 + (y % 30)) (((nI x).toInt64 * 3434249917) - 821) ρa))), (7, .long (((nI x).toInt64 * 3434249917) - 821)), (3, .int (nI 1)), (6, .int (nI y)), (5, .int (nI x)), (0, .ref b), (1, .ref xo), (2, .ref xo2), (4, .int (nI i))]) hx hb dL_law_169 hl (by decide) rfl (fun ls hl => ?_)
    refine lv_iload_n hx hb dL_law_171 rfl (lv_at hl 2 rfl) ?_
    refine x_zeq M (tgt := 234) (by decide) dL_law_172 (by decide) (fun c_57 => by exfalso; exact absurd c_57 (by decide)) (fun c_57 => ?_)
    refine lv_iload hx hb dL_law_175 (lv_at hl 0 rfl) ?_
    refine lv_aload_n hx hb dL_law_177 rfl (lv_at hl 7 rfl) ?_
    refine lv_lload hx hb dL_law_178 (lv_at hl 1 rfl) ?_
    refine lv_iconst (v := (nI 1)) hx hb dL_law_180 (by decide) ?_
    refine lv_iload hx hb dL_law_181 (lv_at hl 3 rfl) ?_
    refine lv_bipush (v := (nI 30)) hx hb dL_law_183 (by decide) ?_
    refine x_irem M (n := y % 30) dL_law_185 (by omega) (by omega) (by decide) rfl ?_
    refine x_iadd M (n := 1 + (y % 30)) dL_law_186 rfl ?_
    refine x_cSL2 (As := [.ref xo2, .long (((nI x).toInt64 * 3434249917) - 821), .int (nI (1 + (y % 30)))]) (oK_simulate l G Y xo2 h02 h12 hh2 hb22 sl2 a02 a12 sv2 tz2 az2 ρa nxa (hCt ρa cta) (hRr ρa nxa rra y) κ0a κ1a fla tna lta γ43 κ44 γ145 gg46 δ047 δ148 lf49 tk50 bt51 bw52 _ _ (hOh.inv) (by omega)) cl_trySimulate [11, 12, 13, 14, 15, 16, 17, 18, 19, 20, 21] M hK hZ hN hw hl.1 rfl (by decide) ⟨by omega, by omega⟩ ⟨by omega, by omega⟩ rfl rfl (Nat.le_of_ble_eq_true rfl) dL_law_187 (fun r sg h_60 ha H locs hw => ?_)
    obtain ⟨rfl, κ58, γ59, rfl⟩ := h_60
    have hw : xW G A s.heap (oW Y xo h0 h1 hh hb2 sl a0 a1 sv tz az ρa nxa (hCt ρa cta) (hRr ρa nxa rra y) κ0a κ1a fla tna lta γ32 κ54 γ55 gg35 δ036 δ137 lf38 tk39 bt40 bw41 ++ oW Y xo2 h02 h12 hh2 hb22 sl2 a02 a12 sv2 tz2 az2 ρa nxa (hCt ρa cta) (hRr ρa nxa rra y) κ0a κ1a fla tna lta γ43 κ58 γ59 gg46 δ047 δ148 lf49 tk50 bt51 bw52) H locs := hw
    refine lv_icmp_ne (tgt := 234) hx hb dL_law_190 (by decide) (fun z => absurd rfl z) (fun _ => ?_)
    refine lv_aload_n hx hb dL_law_193 rfl (lv_at hl 6 rfl) ?_
    refine lv_iconst (v := (nI 2)) hx hb dL_law_194 (by decide) ?_
    refine lv_iload hx hb dL_law_195 (lv_at hl 3 rfl) ?_
    refine lv_i2l (v := (nI y).toInt64) hx hb dL_law_197 rfl ?_
    refine lv_ldc2 (v := 4) hx hb M.2.2.2.1 (M.2.2.2.2 _ mw_1018) dL_law_198 ?_
    refine lv_lmul hx hb dL_law_201 ?_
    refine x_topL (y := lN (y * 4)) (y4_lN hyy) ?_
    refine x_cSL2 (As := [.ref xo, .int (nI 2), .long (lN (y * 4))]) (oK_runScript l G Y xo h0 h1 hh hb2 sl a0 a1 sv tz az ρa nxa (hCt ρa cta) (hRr ρa nxa rra y) κ0a κ1a fla tna lta γ32 κ54 γ55 gg35 δ036 δ137 lf38 tk39 bt40 bw41 _ _ (hOh.inv) (Or.inr (Or.inl ⟨rfl, by omega⟩))) cl_tryScript [0, 1, 2, 3, 4, 5, 6, 7, 8, 9, 10] M hK hZ hN hw hl.1 rfl (by decide) ⟨by omega, by omega⟩ ⟨by omega, by omega⟩ rfl rfl (Nat.le_of_ble_eq_true rfl) dL_law_202 (fun r sg h_63 ha H locs hw => ?_)
    obtain ⟨rfl, κ61, γ62, rfl⟩ := h_63
    have hw : xW G A s.heap (oW Y xo h0 h1 hh hb2 sl a0 a1 sv tz az ρa nxa (hCt ρa cta) (hRr ρa nxa rra y) κ0a κ1a fla tna lta γ32 κ61 γ62 gg35 δ036 δ137 lf38 tk39 bt40 bw41 ++ oW Y xo2 h02 h12 hh2 hb22 sl2 a02 a12 sv2 tz2 az2 ρa nxa (hCt ρa cta) (hRr ρa nxa rra y) κ0a κ1a fla tna lta γ43 κ58 γ59 gg46 δ047 δ148 lf49 tk50 bt51 bw52) H locs := hw
    refine lv_aload_n hx hb dL_law_205 rfl (lv_at hl 7 rfl) ?_
    refine lv_iconst (v := (nI 2)) hx hb dL_law_206 (by decide) ?_
    refine lv_iload hx hb dL_law_207 (lv_at hl 3 rfl) ?_
    refine lv_i2l (v := (nI y).toInt64) hx hb dL_law_209 rfl ?_
    refine lv_ldc2 (v := 4) hx hb M.2.2.2.1 (M.2.2.2.2 _ mw_1018) dL_law_210 ?_
    refine lv_lmul hx hb dL_law_213 ?_
    refine x_topL (y := lN (y * 4)) (y4_lN hyy) ?_
    refine x_cSL2 (As := [.ref xo2, .int (nI 2), .long (lN (y * 4))]) (oK_runScript l G Y xo2 h02 h12 hh2 hb22 sl2 a02 a12 sv2 tz2 az2 ρa nxa (hCt ρa cta) (hRr ρa nxa rra y) κ0a κ1a fla tna lta γ43 κ58 γ59 gg46 δ047 δ148 lf49 tk50 bt51 bw52 _ _ (hOh.inv) (Or.inr (Or.inl ⟨rfl, by omega⟩))) cl_tryScript [11, 12, 13, 14, 15, 16, 17, 18, 19, 20, 21] M hK hZ hN hw hl.1 rfl (by decide) ⟨by omega, by omega⟩ ⟨by omega, by omega⟩ rfl rfl (Nat.le_of_ble_eq_true rfl) dL_law_214 (fun r sg h_66 ha H locs hw => ?_)
    obtain ⟨rfl, κ64, γ65, rfl⟩ := h_66
    have hw : xW G A s.heap (oW Y xo h0 h1 hh hb2 sl a0 a1 sv tz az ρa nxa (hCt ρa cta) (hRr ρa nxa rra y) κ0a κ1a fla tna lta γ32 κ61 γ62 gg35 δ036 δ137 lf38 tk39 bt40 bw41 ++ oW Y xo2 h02 h12 hh2 hb22 sl2 a02 a12 sv2 tz2 az2 ρa nxa (hCt ρa cta) (hRr ρa nxa rra y) κ0a κ1a fla tna lta γ43 κ64 γ65 gg46 δ047 δ148 lf49 tk50 bt51 bw52) H locs := hw
    refine lv_icmp_ne (tgt := 234) hx hb dL_law_217 (by decide) (fun z => absurd rfl z) (fun _ => ?_)
    refine lv_aload_n hx hb dL_law_220 rfl (lv_at hl 6 rfl) ?_
    refine lv_aload_n hx hb dL_law_221 rfl (lv_at hl 7 rfl) ?_
    refine lv_iload hx hb dL_law_222 (lv_at hl 3 rfl) ?_
    refine x_cSG (As := [.ref xo, .ref xo2, .int (nI y)]) (c_L_alike l hfl G Y xo h0 h1 hh hb2 sl a0 a1 sv tz az ρa nxa (hCt ρa cta) (hRr ρa nxa rra y) κ0a κ1a fla tna lta γ32 κ61 γ62 gg35 δ036 δ137 lf38 tk39 bt40 bw41 xo2 h02 h12 hh2 hb22 sl2 a02 a12 sv2 tz2 az2 γ43 κ64 γ65 gg46 δ047 δ148 lf49 tk50 bt51 bw52 (121 * i + 121) y hOh hyy) cw_L_241 (List.range 22) M hK hZ hN hw hl.1 (allI_getN rfl) allI_nd ⟨by omega, by omega⟩ ⟨by omega, by omega⟩ rfl rfl (Nat.le_of_ble_eq_true rfl) dL_law_224 (fun r sg h_71 ha H locs hw => ?_)
    obtain ⟨rfl, κ67, γ68, κ69, γ70, rfl⟩ := h_71
    rw [xPut_allN (n := 22) rfl ha] at hw
    have hw : xW G A s.heap (oW Y xo h0 h1 hh hb2 sl a0 a1 sv tz az ρa nxa (hCt ρa cta) (hRr ρa nxa rra y) κ0a κ1a fla tna lta γ32 κ67 γ68 gg35 δ036 δ137 lf38 tk39 bt40 bw41 ++ oW Y xo2 h02 h12 hh2 hb22 sl2 a02 a12 sv2 tz2 az2 ρa nxa (hCt ρa cta) (hRr ρa nxa rra y) κ0a κ1a fla tna lta γ43 κ69 γ70 gg46 δ047 δ148 lf49 tk50 bt51 bw52) H locs := hw
    refine lv_if_eq (tgt := 234) hx hb dL_law_227 (by decide) (fun z => absurd z (by decide)) (fun _ => ?_)
    refine lv_iconst (v := (nI 1)) hx hb dL_law_230 (by decide) ?_
    refine lv_goto (tgt := 235) hx hb dL_law_231 (by decide) ?_
    refine lv_istore_n (lv' := [(3, .int (nI 1)), (9, .int (simV ρa (simR (1 + (y % 30)) (((nI x).toInt64 * 3434249917) - 821) ρa))), (7, .long (((nI x).toInt64 * 3434249917) - 821)), (6, .int (nI y)), (5, .int (nI x)), (0, .ref b), (1, .ref xo), (2, .ref xo2), (4, .int (nI i))]) hx hb dL_law_235 rfl hl (by decide) rfl (fun ls hl => ?_)
    refine W_widen (k := 418 + 704 * i + 704) (n := 5738 + 4224 * i + 4224) (by omega) (by omega) ?_
    exact L236 (hCt ρa cta) (hRr ρa nxa rra y) γ32 κ67 γ68 gg35 δ036 δ137 lf38 tk39 bt40 bw41 γ43 κ69 γ70 gg46 δ047 δ148 lf49 tk50 bt51 bw52 (hOh.upB (by omega)) _ _ _ hw (lv_sub hl [5, 6, 7, 0, 8] rfl)
end LAWLP
