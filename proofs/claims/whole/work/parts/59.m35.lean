section LAWS2
variable {p : Program} {l : Launch} {e : Env} {R : Room} {s : State} {m : MethodId} {args : Array Value} {below : List Frame} {meth : Method} {c : Code} {H : Heap} {locs : List Loc} {cells slots : Nat} {Q : State → Prop}
variable {ls : Array Slot} {G : va_G} {Y : Nat → Nat} {A : Nat → Prop} {b L i xo h0 h1 hh hb2 sl a0 a1 sv tz az mo tx nw tr dy kp ik td ch ot : Nat} {xs : Nat → Int32}
theorem cs_offer {ρ : Nat → Nat} {a1 a2 a3 : Int} : whyOffer ρ a1 a2 a3 = 0 ∨ whyOffer ρ a1 a2 a3 = 1 ∨ whyOffer ρ a1 a2 a3 = 2 ∨ whyOffer ρ a1 a2 a3 = 3 := by unfold whyOffer; (repeat' split) <;> simp
theorem cs_price {ρ : Nat → Nat} {a1 a2 : Int} : whyPrice ρ a1 a2 = 0 ∨ whyPrice ρ a1 a2 = 1 ∨ whyPrice ρ a1 a2 = 2 ∨ whyPrice ρ a1 a2 = 3 := by unfold whyPrice; (repeat' split) <;> simp
theorem cs_join {ρ : Nat → Nat} {a1 a2 : Int} : whyJoin ρ a1 a2 = 0 ∨ whyJoin ρ a1 a2 = 2 ∨ whyJoin ρ a1 a2 = 3 := by unfold whyJoin; (repeat' split) <;> simp
theorem cs_value {ρ : Nat → Nat} {a1 a2 a3 : Int} : whyValue ρ a1 a2 a3 = 0 ∨ whyValue ρ a1 a2 a3 = 1 ∨ whyValue ρ a1 a2 a3 = 2 := by unfold whyValue; (repeat' split) <;> simp
theorem cs_ask {ρ : Nat → Nat} {a1 a2 a3 : Int} : whyAsk ρ a1 a2 a3 = 0 ∨ whyAsk ρ a1 a2 a3 = 1 ∨ whyAsk ρ a1 a2 a3 = 2 ∨ whyAsk ρ a1 a2 a3 = 3 := by unfold whyAsk askBad; (repeat' split) <;> simp
theorem cs_bid {ρ : Nat → Nat} {a1 : Int} : whyBid ρ a1 = 0 ∨ whyBid ρ a1 = 1 ∨ whyBid ρ a1 = 3 := by unfold whyBid; (repeat' split) <;> simp
theorem cs_close {ρ : Nat → Nat}  : whyClose ρ  = 0 ∨ whyClose ρ  = 3 := by unfold whyClose; (repeat' split) <;> simp
theorem cs_add {ρ : Nat → Nat} {a1 a2 a3 a4 a5 : Int} : whyAdd ρ a1 a2 a3 a4 a5 = 0 ∨ whyAdd ρ a1 a2 a3 a4 a5 = 1 ∨ whyAdd ρ a1 a2 a3 a4 a5 = 2 ∨ whyAdd ρ a1 a2 a3 a4 a5 = 3 := by unfold whyAdd addOk; (repeat' split) <;> simp
theorem cs_drop {ρ : Nat → Nat} {a1 a2 : Int} : whyDrop ρ a1 a2 = 0 ∨ whyDrop ρ a1 a2 = 1 := by unfold whyDrop; (repeat' split) <;> simp
theorem cs_set {a1 a2 : Int} : whySet a1 a2 = 0 ∨ whySet a1 a2 = 2 := by unfold whySet; (repeat' split) <;> simp
set_option maxHeartbeats 4000000 in
theorem step_offer (E : LE p l R s m args c G Y A b L xs) (hi : i + 6 ≤ L) (hf : cells + 1 ≤ R.cells ∧ slots + 6 ≤ R.slots) (f : Nat → Int64) (ρ : Nat → Nat) (γ : Nat → Nat → Nat) (κ : Nat → Nat) (γ1 : Nat → Nat → Nat) (nx : Nat) (ct : Nat) (rr : Nat → Nat → Nat) (gg : Nat → Nat → Nat → Nat) (κ0 : Nat → Nat) (δ0 : Nat → Nat → Nat) (κ1 : Nat → Nat) (δ1 : Nat → Nat → Nat) (fl : Nat → Int32) (n : Nat) (lt : Nat → Nat) (lf : Nat → Nat) (tk : Nat → Int32) (bt : Nat → Int32) (bw : Int32) (rf : Nat) (φt : Nat → Nat) (φ : Nat → Nat) (kf : Nat → Nat) (tr1 : Nat → Nat) (ch1 : Nat → Nat) (sp : Nat) (ou : Nat) (dia : Nat → Nat → Nat) (hJ : LJ ρ n lt nx ct rr dia φ fl κ0 kf κ1) (hw : xW G A s.heap (jW Y xo h0 h1 hh hb2 sl a0 a1 sv tz az mo tx nw tr dy kp ik td ch ot f ρ γ κ γ1 nx ct rr gg κ0 δ0 κ1 δ1 fl n lt lf tk bt bw rf φt φ kf tr1 ch1 sp ou dia) H locs) (hl : lv_has ls 7 [(0, .ref b), (1, .ref xo), (2, .ref mo), (3, .ref ot), (4, .int (nI i))]) (K : LK p l e R s m args below meth c G Y A b i xo h0 h1 hh hb2 sl a0 a1 sv tz az mo tx nw tr dy kp ik td ch ot (cells + 1) (slots + 6) Q) : W p l e R s m args below meth c H locs cells slots Q (F0 m 710 ls []) := by
  obtain ⟨hI, hn, hlt, hr, hdi, hdv, hf0, hf1⟩ := hJ
  have hw : xW G A s.heap [outS Y ot f, [(xo, .inr (4, [.ref h0, .ref h1, .ref hh, .ref sl, .ref sv, .ref tz, .ref az]))], aucW Y h0 ρ γ, aucW Y h1 κ γ1, hisW Y hh hb2 nx ct, ringW Y hb2 rr gg, [(sl, .inl (Y 4, 2, .inr (.inr (.inr (.inr (fun k => some (if k = 0 then a0 else a1)))))))], aucW Y a0 κ0 δ0, aucW Y a1 κ1 δ1, [(sv, .inl (Y 1, 2, .inl fl))], txtW Y tz lt n, asgW Y az lf tk bt bw, [(mo, .inr (5, [.int (nI rf), .ref tx, .int (nI n), .ref nw, .ref tr, .ref dy, .int (nI ct), .ref kp, .ref ik, .ref td, .ref ch, .int (nI sp), .int (nI ou)]))], [(tx, .inl (Y 0, 120, .inl (rowF lt)))], [(nw, .inl (Y 0, 140, .inl (rowF ρ)))], [(tr, .inl (Y 0, 140, .inl (rowF φt)))], [(dy, .inl (Y 0, 1960, .inl (rowF φ)))], [(kp, .inl (Y 0, 280, .inl (rowF kf)))], [(ik, .inl (Y 1, 2, .inl fl))], [(td, .inl (Y 0, 6, .inl (rowF tr1)))], [(ch, .inl (Y 0, 6, .inl (rowF ch1)))]] H locs := hw
  obtain ⟨c1, e1⟩ : ∃ z, xs (i + 1) = z := ⟨_, rfl⟩
  obtain ⟨c2, e2⟩ : ∃ z, xs (i + 2) = z := ⟨_, rfl⟩
  obtain ⟨c3, e3⟩ : ∃ z, xs (i + 3) = z := ⟨_, rfl⟩
  have hcs : whyOffer ρ c1.toInt c2.toInt c3.toInt = 0 ∨ whyOffer ρ c1.toInt c2.toInt c3.toInt = 1 ∨ whyOffer ρ c1.toInt c2.toInt c3.toInt = 2 ∨ whyOffer ρ c1.toInt c2.toInt c3.toInt = 3 := cs_offer
  rcases hcs with hz | hz | hz | hz
  · have ha := ok_offer hz
    obtain ⟨j1, rfl, g1, z1⟩ := toN (x := c1) (by omega)
    obtain ⟨j2, rfl, g2, z2⟩ := toN (x := c2) (by omega)
    obtain ⟨j3, rfl, g3, z3⟩ := toN (x := c3) (by omega)
    rw [z1, z2, z3] at hz
    have hI2 : Inv (mOffer ρ j1 j2 j3) := by have z := Inv_dOffer (k := j1) (u := j2) (v := j3) hI; unfold dOffer at z; rwa [if_pos (show tOffer ρ j1 j2 j3 = 0 from hz)] at z
    refine case_offer E e1 e2 e3 hi (lk_offer l G Y xo ot _ _ _ f _ _ (k_X5_offer l G Y xo h0 h1 hh sl sv tz az hb2 nx ct rr gg (j1) (j2) (j3) ρ γ (hI) (hr.1) (hr.2.1) (g1) (g2) (g3) (hz)) rfl) (k_X6_offer l G Y mo rf tx n nw tr dy ct kp ik td ch sp ou (j1) (j2) (j3) ρ φ dia (hI) (hr.2.1) (hdi) (g1) (g2) (g3) (hz)) (by decide) (is := [0, 1, 2, 4, 5]) (isM := [12, 14, 16]) rfl (by decide) (by decide) hf hw hl ?_
    rintro _ _ ⟨rfl, _, _, ⟨rfl, γ', rfl⟩, rfl⟩
    refine ⟨rfl, ⟨_, rfl⟩, ?_⟩
    rintro _ _ ⟨rfl, φ', hm0, rfl⟩
    exact ⟨⟨_, 0, _, _, _, _, _, _, _, _, _, _, _, _, rfl, rfl, rfl, by decide, fun _ => rfl⟩, fun H locs ls hw hl => K _ (mOffer ρ j1 j2 j3) _ _ _ (nxt nx) (min (ct + 1) 14) (setR rr nx ρ) _ κ0 _ κ1 _ fl n lt _ _ _ _ _ _ φ' kf _ _ _ _ (diaPut ct dia ρ) ⟨hI2, hn, hlt, ring_rem hr, hm0, dia_inv hdv hI hr.2.1, hf0, hf1⟩ _ _ _ hw hl⟩
  · refine case_offer E e1 e2 e3 hi (lt_offer_1 l G Y xo ot _ _ _ f _ _ (t_X5_offer_1 l E.fl G Y xo h0 h1 hh sl sv tz az (c1) (c2) (c3) ρ γ (hI) (hz)) rfl) (f_X6_offer_1 l G Y mo rf tx n nw tr dy ct kp ik td ch sp ou (c1) (c2) (c3) ρ (hI) (hz)) (by decide) (is := [0, 1, 2]) (isM := [12, 14]) rfl (by decide) (by decide) hf hw hl ?_
    rintro _ _ ⟨rfl, rfl⟩
    refine ⟨rfl, ⟨_, rfl⟩, ?_⟩
    rintro _ _ ⟨rfl, rfl⟩
    exact ⟨⟨_, 1, _, _, _, _, _, _, _, _, _, _, _, _, rfl, rfl, rfl, by decide, fun z => absurd z (by decide)⟩, fun H locs ls hw hl => K _ ρ _ _ _ nx ct rr _ κ0 _ κ1 _ fl n lt _ _ _ _ _ _ φ kf _ _ _ _ dia ⟨hI, hn, hlt, hr, hdi, hdv, hf0, hf1⟩ _ _ _ hw hl⟩
  · refine case_offer E e1 e2 e3 hi (lt_offer_2 l G Y xo ot _ _ _ f _ _ (t_X5_offer_2 l E.fl G Y xo h0 h1 hh sl sv tz az (c1) (c2) (c3) ρ γ (hI) (hz)) rfl) (f_X6_offer_2 l G Y mo rf tx n nw tr dy ct kp ik td ch sp ou (c1) (c2) (c3) ρ (hI) (hz)) (by decide) (is := [0, 1, 2]) (isM := [12, 14]) rfl (by decide) (by decide) hf hw hl ?_
    rintro _ _ ⟨rfl, rfl⟩
    refine ⟨rfl, ⟨_, rfl⟩, ?_⟩
    rintro _ _ ⟨rfl, rfl⟩
    exact ⟨⟨_, 2, _, _, _, _, _, _, _, _, _, _, _, _, rfl, rfl, rfl, by decide, fun z => absurd z (by decide)⟩, fun H locs ls hw hl => K _ ρ _ _ _ nx ct rr _ κ0 _ κ1 _ fl n lt _ _ _ _ _ _ φ kf _ _ _ _ dia ⟨hI, hn, hlt, hr, hdi, hdv, hf0, hf1⟩ _ _ _ hw hl⟩
  · refine case_offer E e1 e2 e3 hi (lt_offer_3 l G Y xo ot _ _ _ f _ _ (t_X5_offer_3 l E.fl G Y xo h0 h1 hh sl sv tz az (c1) (c2) (c3) ρ γ (hI) (hz)) rfl) (f_X6_offer_3 l G Y mo rf tx n nw tr dy ct kp ik td ch sp ou (c1) (c2) (c3) ρ (hI) (hz)) (by decide) (is := [0, 1, 2]) (isM := [12, 14]) rfl (by decide) (by decide) hf hw hl ?_
    rintro _ _ ⟨rfl, rfl⟩
    refine ⟨rfl, ⟨_, rfl⟩, ?_⟩
    rintro _ _ ⟨rfl, rfl⟩
    exact ⟨⟨_, 3, _, _, _, _, _, _, _, _, _, _, _, _, rfl, rfl, rfl, by decide, fun z => absurd z (by decide)⟩, fun H locs ls hw hl => K _ ρ _ _ _ nx ct rr _ κ0 _ κ1 _ fl n lt _ _ _ _ _ _ φ kf _ _ _ _ dia ⟨hI, hn, hlt, hr, hdi, hdv, hf0, hf1⟩ _ _ _ hw hl⟩
set_option maxHeartbeats 4000000 in
theorem step_price (E : LE p l R s m args c G Y A b L xs) (hi : i + 6 ≤ L) (hf : cells + 1 ≤ R.cells ∧ slots + 6 ≤ R.slots) (f : Nat → Int64) (ρ : Nat → Nat) (γ : Nat → Nat → Nat) (κ : Nat → Nat) (γ1 : Nat → Nat → Nat) (nx : Nat) (ct : Nat) (rr : Nat → Nat → Nat) (gg : Nat → Nat → Nat → Nat) (κ0 : Nat → Nat) (δ0 : Nat → Nat → Nat) (κ1 : Nat → Nat) (δ1 : Nat → Nat → Nat) (fl : Nat → Int32) (n : Nat) (lt : Nat → Nat) (lf : Nat → Nat) (tk : Nat → Int32) (bt : Nat → Int32) (bw : Int32) (rf : Nat) (φt : Nat → Nat) (φ : Nat → Nat) (kf : Nat → Nat) (tr1 : Nat → Nat) (ch1 : Nat → Nat) (sp : Nat) (ou : Nat) (dia : Nat → Nat → Nat) (hJ : LJ ρ n lt nx ct rr dia φ fl κ0 kf κ1) (hw : xW G A s.heap (jW Y xo h0 h1 hh hb2 sl a0 a1 sv tz az mo tx nw tr dy kp ik td ch ot f ρ γ κ γ1 nx ct rr gg κ0 δ0 κ1 δ1 fl n lt lf tk bt bw rf φt φ kf tr1 ch1 sp ou dia) H locs) (hl : lv_has ls 7 [(0, .ref b), (1, .ref xo), (2, .ref mo), (3, .ref ot), (4, .int (nI i))]) (K : LK p l e R s m args below meth c G Y A b i xo h0 h1 hh hb2 sl a0 a1 sv tz az mo tx nw tr dy kp ik td ch ot (cells + 1) (slots + 6) Q) : W p l e R s m args below meth c H locs cells slots Q (F0 m 790 ls []) := by
  obtain ⟨hI, hn, hlt, hr, hdi, hdv, hf0, hf1⟩ := hJ
  have hw : xW G A s.heap [outS Y ot f, [(xo, .inr (4, [.ref h0, .ref h1, .ref hh, .ref sl, .ref sv, .ref tz, .ref az]))], aucW Y h0 ρ γ, aucW Y h1 κ γ1, hisW Y hh hb2 nx ct, ringW Y hb2 rr gg, [(sl, .inl (Y 4, 2, .inr (.inr (.inr (.inr (fun k => some (if k = 0 then a0 else a1)))))))], aucW Y a0 κ0 δ0, aucW Y a1 κ1 δ1, [(sv, .inl (Y 1, 2, .inl fl))], txtW Y tz lt n, asgW Y az lf tk bt bw, [(mo, .inr (5, [.int (nI rf), .ref tx, .int (nI n), .ref nw, .ref tr, .ref dy, .int (nI ct), .ref kp, .ref ik, .ref td, .ref ch, .int (nI sp), .int (nI ou)]))], [(tx, .inl (Y 0, 120, .inl (rowF lt)))], [(nw, .inl (Y 0, 140, .inl (rowF ρ)))], [(tr, .inl (Y 0, 140, .inl (rowF φt)))], [(dy, .inl (Y 0, 1960, .inl (rowF φ)))], [(kp, .inl (Y 0, 280, .inl (rowF kf)))], [(ik, .inl (Y 1, 2, .inl fl))], [(td, .inl (Y 0, 6, .inl (rowF tr1)))], [(ch, .inl (Y 0, 6, .inl (rowF ch1)))]] H locs := hw
  obtain ⟨c1, e1⟩ : ∃ z, xs (i + 1) = z := ⟨_, rfl⟩
  obtain ⟨c2, e2⟩ : ∃ z, xs (i + 2) = z := ⟨_, rfl⟩
  have hcs : whyPrice ρ c1.toInt c2.toInt = 0 ∨ whyPrice ρ c1.toInt c2.toInt = 1 ∨ whyPrice ρ c1.toInt c2.toInt = 2 ∨ whyPrice ρ c1.toInt c2.toInt = 3 := cs_price
  rcases hcs with hz | hz | hz | hz
  · have ha := ok_price hz
    obtain ⟨j1, rfl, g1, z1⟩ := toN (x := c1) (by omega)
    obtain ⟨j2, rfl, g2, z2⟩ := toN (x := c2) (by omega)
    rw [z1, z2] at hz
    have hI2 : Inv (mPri ρ j1 j2) := by have ha := ok_price hz; exact Inv_pri hI (by omega) ⟨by omega, by omega⟩
    refine case_price E e1 e2 hi (lk_price l G Y xo ot _ _ f _ _ (k_X5_price l G Y xo h0 h1 hh sl sv tz az hb2 nx ct rr gg (j1) (j2) ρ γ (hI) (hr.1) (hr.2.1) (g1) (g2) (hz)) rfl) (k_X6_price l G Y mo rf tx n nw tr dy ct kp ik td ch sp ou (j1) (j2) ρ φ dia (hI) (hr.2.1) (hdi) (g1) (g2) (hz)) (by decide) (is := [0, 1, 2, 4, 5]) (isM := [12, 14, 16]) rfl (by decide) (by decide) hf hw hl ?_
    rintro _ _ ⟨rfl, _, _, ⟨rfl, γ', rfl⟩, rfl⟩
    refine ⟨rfl, ⟨_, rfl⟩, ?_⟩
    rintro _ _ ⟨rfl, φ', hm0, rfl⟩
    exact ⟨⟨_, 0, _, _, _, _, _, _, _, _, _, _, _, _, rfl, rfl, rfl, by decide, fun _ => rfl⟩, fun H locs ls hw hl => K _ (mPri ρ j1 j2) _ _ _ (nxt nx) (min (ct + 1) 14) (setR rr nx ρ) _ κ0 _ κ1 _ fl n lt _ _ _ _ _ _ φ' kf _ _ _ _ (diaPut ct dia ρ) ⟨hI2, hn, hlt, ring_rem hr, hm0, dia_inv hdv hI hr.2.1, hf0, hf1⟩ _ _ _ hw hl⟩
  · refine case_price E e1 e2 hi (lt_price_1 l G Y xo ot _ _ f _ _ (t_X5_price_1 l E.fl G Y xo h0 h1 hh sl sv tz az (c1) (c2) ρ γ (hI) (hz)) rfl) (f_X6_price_1 l G Y mo rf tx n nw tr dy ct kp ik td ch sp ou (c1) (c2) ρ (hI) (hz)) (by decide) (is := [0, 1, 2]) (isM := [12, 14]) rfl (by decide) (by decide) hf hw hl ?_
    rintro _ _ ⟨rfl, rfl⟩
    refine ⟨rfl, ⟨_, rfl⟩, ?_⟩
    rintro _ _ ⟨rfl, rfl⟩
    exact ⟨⟨_, 1, _, _, _, _, _, _, _, _, _, _, _, _, rfl, rfl, rfl, by decide, fun z => absurd z (by decide)⟩, fun H locs ls hw hl => K _ ρ _ _ _ nx ct rr _ κ0 _ κ1 _ fl n lt _ _ _ _ _ _ φ kf _ _ _ _ dia ⟨hI, hn, hlt, hr, hdi, hdv, hf0, hf1⟩ _ _ _ hw hl⟩
  · refine case_price E e1 e2 hi (lt_price_2 l G Y xo ot _ _ f _ _ (t_X5_price_2 l E.fl G Y xo h0 h1 hh sl sv tz az (c1) (c2) ρ γ (hI) (hz)) rfl) (f_X6_price_2 l G Y mo rf tx n nw tr dy ct kp ik td ch sp ou (c1) (c2) ρ (hI) (hz)) (by decide) (is := [0, 1, 2]) (isM := [12, 14]) rfl (by decide) (by decide) hf hw hl ?_
    rintro _ _ ⟨rfl, rfl⟩
    refine ⟨rfl, ⟨_, rfl⟩, ?_⟩
    rintro _ _ ⟨rfl, rfl⟩
    exact ⟨⟨_, 2, _, _, _, _, _, _, _, _, _, _, _, _, rfl, rfl, rfl, by decide, fun z => absurd z (by decide)⟩, fun H locs ls hw hl => K _ ρ _ _ _ nx ct rr _ κ0 _ κ1 _ fl n lt _ _ _ _ _ _ φ kf _ _ _ _ dia ⟨hI, hn, hlt, hr, hdi, hdv, hf0, hf1⟩ _ _ _ hw hl⟩
  · refine case_price E e1 e2 hi (lt_price_3 l G Y xo ot _ _ f _ _ (t_X5_price_3 l E.fl G Y xo h0 h1 hh sl sv tz az (c1) (c2) ρ γ (hI) (hz)) rfl) (f_X6_price_3 l G Y mo rf tx n nw tr dy ct kp ik td ch sp ou (c1) (c2) ρ (hI) (hz)) (by decide) (is := [0, 1, 2]) (isM := [12, 14]) rfl (by decide) (by decide) hf hw hl ?_
    rintro _ _ ⟨rfl, rfl⟩
    refine ⟨rfl, ⟨_, rfl⟩, ?_⟩
    rintro _ _ ⟨rfl, rfl⟩
    exact ⟨⟨_, 3, _, _, _, _, _, _, _, _, _, _, _, _, rfl, rfl, rfl, by decide, fun z => absurd z (by decide)⟩, fun H locs ls hw hl => K _ ρ _ _ _ nx ct rr _ κ0 _ κ1 _ fl n lt _ _ _ _ _ _ φ kf _ _ _ _ dia ⟨hI, hn, hlt, hr, hdi, hdv, hf0, hf1⟩ _ _ _ hw hl⟩
set_option maxHeartbeats 4000000 in
theorem step_join (E : LE p l R s m args c G Y A b L xs) (hi : i + 6 ≤ L) (hf : cells + 1 ≤ R.cells ∧ slots + 6 ≤ R.slots) (f : Nat → Int64) (ρ : Nat → Nat) (γ : Nat → Nat → Nat) (κ : Nat → Nat) (γ1 : Nat → Nat → Nat) (nx : Nat) (ct : Nat) (rr : Nat → Nat → Nat) (gg : Nat → Nat → Nat → Nat) (κ0 : Nat → Nat) (δ0 : Nat → Nat → Nat) (κ1 : Nat → Nat) (δ1 : Nat → Nat → Nat) (fl : Nat → Int32) (n : Nat) (lt : Nat → Nat) (lf : Nat → Nat) (tk : Nat → Int32) (bt : Nat → Int32) (bw : Int32) (rf : Nat) (φt : Nat → Nat) (φ : Nat → Nat) (kf : Nat → Nat) (tr1 : Nat → Nat) (ch1 : Nat → Nat) (sp : Nat) (ou : Nat) (dia : Nat → Nat → Nat) (hJ : LJ ρ n lt nx ct rr dia φ fl κ0 kf κ1) (hw : xW G A s.heap (jW Y xo h0 h1 hh hb2 sl a0 a1 sv tz az mo tx nw tr dy kp ik td ch ot f ρ γ κ γ1 nx ct rr gg κ0 δ0 κ1 δ1 fl n lt lf tk bt bw rf φt φ kf tr1 ch1 sp ou dia) H locs) (hl : lv_has ls 7 [(0, .ref b), (1, .ref xo), (2, .ref mo), (3, .ref ot), (4, .int (nI i))]) (K : LK p l e R s m args below meth c G Y A b i xo h0 h1 hh hb2 sl a0 a1 sv tz az mo tx nw tr dy kp ik td ch ot (cells + 1) (slots + 6) Q) : W p l e R s m args below meth c H locs cells slots Q (F0 m 858 ls []) := by
  obtain ⟨hI, hn, hlt, hr, hdi, hdv, hf0, hf1⟩ := hJ
  have hw : xW G A s.heap [outS Y ot f, [(xo, .inr (4, [.ref h0, .ref h1, .ref hh, .ref sl, .ref sv, .ref tz, .ref az]))], aucW Y h0 ρ γ, aucW Y h1 κ γ1, hisW Y hh hb2 nx ct, ringW Y hb2 rr gg, [(sl, .inl (Y 4, 2, .inr (.inr (.inr (.inr (fun k => some (if k = 0 then a0 else a1)))))))], aucW Y a0 κ0 δ0, aucW Y a1 κ1 δ1, [(sv, .inl (Y 1, 2, .inl fl))], txtW Y tz lt n, asgW Y az lf tk bt bw, [(mo, .inr (5, [.int (nI rf), .ref tx, .int (nI n), .ref nw, .ref tr, .ref dy, .int (nI ct), .ref kp, .ref ik, .ref td, .ref ch, .int (nI sp), .int (nI ou)]))], [(tx, .inl (Y 0, 120, .inl (rowF lt)))], [(nw, .inl (Y 0, 140, .inl (rowF ρ)))], [(tr, .inl (Y 0, 140, .inl (rowF φt)))], [(dy, .inl (Y 0, 1960, .inl (rowF φ)))], [(kp, .inl (Y 0, 280, .inl (rowF kf)))], [(ik, .inl (Y 1, 2, .inl fl))], [(td, .inl (Y 0, 6, .inl (rowF tr1)))], [(ch, .inl (Y 0, 6, .inl (rowF ch1)))]] H locs := hw
  obtain ⟨c1, e1⟩ : ∃ z, xs (i + 1) = z := ⟨_, rfl⟩
  obtain ⟨c2, e2⟩ : ∃ z, xs (i + 2) = z := ⟨_, rfl⟩
  have hcs : whyJoin ρ c1.toInt c2.toInt = 0 ∨ whyJoin ρ c1.toInt c2.toInt = 2 ∨ whyJoin ρ c1.toInt c2.toInt = 3 := cs_join
  rcases hcs with hz | hz | hz
  · have ha := ok_join hz
    obtain ⟨j1, rfl, g1, z1⟩ := toN (x := c1) (by omega)
    obtain ⟨j2, rfl, g2, z2⟩ := toN (x := c2) (by omega)
    rw [z1, z2] at hz
    have hI2 : Inv (mJoin ρ j1 j2) := by have z := Inv_dJoin (u := j1) (v := j2) hI; unfold dJoin at z; rwa [if_pos (show tJoin ρ j1 j2 = 0 from hz)] at z
    refine case_join E e1 e2 hi (lk_join l G Y xo ot _ _ f _ _ (k_X5_join l G Y xo h0 h1 hh sl sv tz az hb2 nx ct rr gg (j1) (j2) ρ γ (hI) (hr.1) (hr.2.1) (g1) (g2) (hz)) rfl) (k_X6_join l G Y mo rf tx n nw tr dy ct kp ik td ch sp ou (j1) (j2) ρ φ dia (hI) (hr.2.1) (hdi) (g1) (g2) (hz)) (by decide) (is := [0, 1, 2, 4, 5]) (isM := [12, 14, 16]) rfl (by decide) (by decide) hf hw hl ?_
    rintro _ _ ⟨rfl, _, _, ⟨rfl, γ', rfl⟩, rfl⟩
    refine ⟨rfl, ⟨_, rfl⟩, ?_⟩
    rintro _ _ ⟨rfl, φ', hm0, rfl⟩
    exact ⟨⟨_, 0, _, _, _, _, _, _, _, _, _, _, _, _, rfl, rfl, rfl, by decide, fun _ => rfl⟩, fun H locs ls hw hl => K _ (mJoin ρ j1 j2) _ _ _ (nxt nx) (min (ct + 1) 14) (setR rr nx ρ) _ κ0 _ κ1 _ fl n lt _ _ _ _ _ _ φ' kf _ _ _ _ (diaPut ct dia ρ) ⟨hI2, hn, hlt, ring_rem hr, hm0, dia_inv hdv hI hr.2.1, hf0, hf1⟩ _ _ _ hw hl⟩
  · refine case_join E e1 e2 hi (lt_join_1 l G Y xo ot _ _ f _ _ (t_X5_join_2 l E.fl G Y xo h0 h1 hh sl sv tz az (c1) (c2) ρ γ (hI) (hz)) rfl) (f_X6_join_2 l G Y mo rf tx n nw tr dy ct kp ik td ch sp ou (c1) (c2) ρ (hI) (hz)) (by decide) (is := [0, 1, 2]) (isM := [12, 14]) rfl (by decide) (by decide) hf hw hl ?_
    rintro _ _ ⟨rfl, rfl⟩
    refine ⟨rfl, ⟨_, rfl⟩, ?_⟩
    rintro _ _ ⟨rfl, rfl⟩
    exact ⟨⟨_, 1, _, _, _, _, _, _, _, _, _, _, _, _, rfl, rfl, rfl, by decide, fun z => absurd z (by decide)⟩, fun H locs ls hw hl => K _ ρ _ _ _ nx ct rr _ κ0 _ κ1 _ fl n lt _ _ _ _ _ _ φ kf _ _ _ _ dia ⟨hI, hn, hlt, hr, hdi, hdv, hf0, hf1⟩ _ _ _ hw hl⟩
  · refine case_join E e1 e2 hi (lt_join_2 l G Y xo ot _ _ f _ _ (t_X5_join_3 l E.fl G Y xo h0 h1 hh sl sv tz az (c1) (c2) ρ γ (hI) (hz)) rfl) (f_X6_join_3 l G Y mo rf tx n nw tr dy ct kp ik td ch sp ou (c1) (c2) ρ (hI) (hz)) (by decide) (is := [0, 1, 2]) (isM := [12, 14]) rfl (by decide) (by decide) hf hw hl ?_
    rintro _ _ ⟨rfl, rfl⟩
    refine ⟨rfl, ⟨_, rfl⟩, ?_⟩
    rintro _ _ ⟨rfl, rfl⟩
    exact ⟨⟨_, 2, _, _, _, _, _, _, _, _, _, _, _, _, rfl, rfl, rfl, by decide, fun z => absurd z (by decide)⟩, fun H locs ls hw hl => K _ ρ _ _ _ nx ct rr _ κ0 _ κ1 _ fl n lt _ _ _ _ _ _ φ kf _ _ _ _ dia ⟨hI, hn, hlt, hr, hdi, hdv, hf0, hf1⟩ _ _ _ hw hl⟩
set_option maxHeartbeats 4000000 in
theorem step_value (E : LE p l R s m args c G Y A b L xs) (hi : i + 6 ≤ L) (hf : cells + 1 ≤ R.cells ∧ slots + 6 ≤ R.slots) (f : Nat → Int64) (ρ : Nat → Nat) (γ : Nat → Nat → Nat) (κ : Nat → Nat) (γ1 : Nat → Nat → Nat) (nx : Nat) (ct : Nat) (rr : Nat → Nat → Nat) (gg : Nat → Nat → Nat → Nat) (κ0 : Nat → Nat) (δ0 : Nat → Nat → Nat) (κ1 : Nat → Nat) (δ1 : Nat → Nat → Nat) (fl : Nat → Int32) (n : Nat) (lt : Nat → Nat) (lf : Nat → Nat) (tk : Nat → Int32) (bt : Nat → Int32) (bw : Int32) (rf : Nat) (φt : Nat → Nat) (φ : Nat → Nat) (kf : Nat → Nat) (tr1 : Nat → Nat) (ch1 : Nat → Nat) (sp : Nat) (ou : Nat) (dia : Nat → Nat → Nat) (hJ : LJ ρ n lt nx ct rr dia φ fl κ0 kf κ1) (hw : xW G A s.heap (jW Y xo h0 h1 hh hb2 sl a0 a1 sv tz az mo tx nw tr dy kp ik td ch ot f ρ γ κ γ1 nx ct rr gg κ0 δ0 κ1 δ1 fl n lt lf tk bt bw rf φt φ kf tr1 ch1 sp ou dia) H locs) (hl : lv_has ls 7 [(0, .ref b), (1, .ref xo), (2, .ref mo), (3, .ref ot), (4, .int (nI i))]) (K : LK p l e R s m args below meth c G Y A b i xo h0 h1 hh hb2 sl a0 a1 sv tz az mo tx nw tr dy kp ik td ch ot (cells + 1) (slots + 6) Q) : W p l e R s m args below meth c H locs cells slots Q (F0 m 926 ls []) := by
  obtain ⟨hI, hn, hlt, hr, hdi, hdv, hf0, hf1⟩ := hJ
  have hw : xW G A s.heap [outS Y ot f, [(xo, .inr (4, [.ref h0, .ref h1, .ref hh, .ref sl, .ref sv, .ref tz, .ref az]))], aucW Y h0 ρ γ, aucW Y h1 κ γ1, hisW Y hh hb2 nx ct, ringW Y hb2 rr gg, [(sl, .inl (Y 4, 2, .inr (.inr (.inr (.inr (fun k => some (if k = 0 then a0 else a1)))))))], aucW Y a0 κ0 δ0, aucW Y a1 κ1 δ1, [(sv, .inl (Y 1, 2, .inl fl))], txtW Y tz lt n, asgW Y az lf tk bt bw, [(mo, .inr (5, [.int (nI rf), .ref tx, .int (nI n), .ref nw, .ref tr, .ref dy, .int (nI ct), .ref kp, .ref ik, .ref td, .ref ch, .int (nI sp), .int (nI ou)]))], [(tx, .inl (Y 0, 120, .inl (rowF lt)))], [(nw, .inl (Y 0, 140, .inl (rowF ρ)))], [(tr, .inl (Y 0, 140, .inl (rowF φt)))], [(dy, .inl (Y 0, 1960, .inl (rowF φ)))], [(kp, .inl (Y 0, 280, .inl (rowF kf)))], [(ik, .inl (Y 1, 2, .inl fl))], [(td, .inl (Y 0, 6, .inl (rowF tr1)))], [(ch, .inl (Y 0, 6, .inl (rowF ch1)))]] H locs := hw
  obtain ⟨c1, e1⟩ : ∃ z, xs (i + 1) = z := ⟨_, rfl⟩
  obtain ⟨c2, e2⟩ : ∃ z, xs (i + 2) = z := ⟨_, rfl⟩
  obtain ⟨c3, e3⟩ : ∃ z, xs (i + 3) = z := ⟨_, rfl⟩
  have hcs : whyValue ρ c1.toInt c2.toInt c3.toInt = 0 ∨ whyValue ρ c1.toInt c2.toInt c3.toInt = 1 ∨ whyValue ρ c1.toInt c2.toInt c3.toInt = 2 := cs_value
  rcases hcs with hz | hz | hz
  · have ha := ok_value hz
    obtain ⟨j1, rfl, g1, z1⟩ := toN (x := c1) (by omega)
    obtain ⟨j2, rfl, g2, z2⟩ := toN (x := c2) (by omega)
    obtain ⟨j3, rfl, g3, z3⟩ := toN (x := c3) (by omega)
    rw [z1, z2, z3] at hz
    have hI2 : Inv (mVal ρ j1 j2 j3) := by have z := Inv_dVal (b := j1) (k := j2) (v := j3) hI; unfold dVal at z; rwa [if_pos (show tVal ρ j1 j2 j3 = 0 from hz)] at z
    refine case_value E e1 e2 e3 hi (lk_value l G Y xo ot _ _ _ f _ _ (k_X5_value l G Y xo h0 h1 hh sl sv tz az hb2 nx ct rr gg (j1) (j2) (j3) ρ γ (hI) (hr.1) (hr.2.1) (g1) (g2) (g3) (hz)) rfl) (k_X6_value l G Y mo rf tx n nw tr dy ct kp ik td ch sp ou (j1) (j2) (j3) ρ φ dia (hI) (hr.2.1) (hdi) (g1) (g2) (g3) (hz)) (by decide) (is := [0, 1, 2, 4, 5]) (isM := [12, 14, 16]) rfl (by decide) (by decide) hf hw hl ?_
    rintro _ _ ⟨rfl, _, _, ⟨rfl, γ', rfl⟩, rfl⟩
    refine ⟨rfl, ⟨_, rfl⟩, ?_⟩
    rintro _ _ ⟨rfl, φ', hm0, rfl⟩
    exact ⟨⟨_, 0, _, _, _, _, _, _, _, _, _, _, _, _, rfl, rfl, rfl, by decide, fun _ => rfl⟩, fun H locs ls hw hl => K _ (mVal ρ j1 j2 j3) _ _ _ (nxt nx) (min (ct + 1) 14) (setR rr nx ρ) _ κ0 _ κ1 _ fl n lt _ _ _ _ _ _ φ' kf _ _ _ _ (diaPut ct dia ρ) ⟨hI2, hn, hlt, ring_rem hr, hm0, dia_inv hdv hI hr.2.1, hf0, hf1⟩ _ _ _ hw hl⟩
  · refine case_value E e1 e2 e3 hi (lt_value_1 l G Y xo ot _ _ _ f _ _ (t_X5_value_1 l E.fl G Y xo h0 h1 hh sl sv tz az (c1) (c2) (c3) ρ γ (hI) (hz)) rfl) (f_X6_value_1 l G Y mo rf tx n nw tr dy ct kp ik td ch sp ou (c1) (c2) (c3) ρ (hI) (hz)) (by decide) (is := [0, 1, 2]) (isM := [12, 14]) rfl (by decide) (by decide) hf hw hl ?_
    rintro _ _ ⟨rfl, rfl⟩
    refine ⟨rfl, ⟨_, rfl⟩, ?_⟩
    rintro _ _ ⟨rfl, rfl⟩
    exact ⟨⟨_, 1, _, _, _, _, _, _, _, _, _, _, _, _, rfl, rfl, rfl, by decide, fun z => absurd z (by decide)⟩, fun H locs ls hw hl => K _ ρ _ _ _ nx ct rr _ κ0 _ κ1 _ fl n lt _ _ _ _ _ _ φ kf _ _ _ _ dia ⟨hI, hn, hlt, hr, hdi, hdv, hf0, hf1⟩ _ _ _ hw hl⟩
  · refine case_value E e1 e2 e3 hi (lt_value_2 l G Y xo ot _ _ _ f _ _ (t_X5_value_2 l E.fl G Y xo h0 h1 hh sl sv tz az (c1) (c2) (c3) ρ γ (hI) (hz)) rfl) (f_X6_value_2 l G Y mo rf tx n nw tr dy ct kp ik td ch sp ou (c1) (c2) (c3) ρ (hI) (hz)) (by decide) (is := [0, 1, 2]) (isM := [12, 14]) rfl (by decide) (by decide) hf hw hl ?_
    rintro _ _ ⟨rfl, rfl⟩
    refine ⟨rfl, ⟨_, rfl⟩, ?_⟩
    rintro _ _ ⟨rfl, rfl⟩
    exact ⟨⟨_, 2, _, _, _, _, _, _, _, _, _, _, _, _, rfl, rfl, rfl, by decide, fun z => absurd z (by decide)⟩, fun H locs ls hw hl => K _ ρ _ _ _ nx ct rr _ κ0 _ κ1 _ fl n lt _ _ _ _ _ _ φ kf _ _ _ _ dia ⟨hI, hn, hlt, hr, hdi, hdv, hf0, hf1⟩ _ _ _ hw hl⟩
set_option maxHeartbeats 4000000 in
theorem step_ask (E : LE p l R s m args c G Y A b L xs) (hi : i + 6 ≤ L) (hf : cells + 1 ≤ R.cells ∧ slots + 6 ≤ R.slots) (f : Nat → Int64) (ρ : Nat → Nat) (γ : Nat → Nat → Nat) (κ : Nat → Nat) (γ1 : Nat → Nat → Nat) (nx : Nat) (ct : Nat) (rr : Nat → Nat → Nat) (gg : Nat → Nat → Nat → Nat) (κ0 : Nat → Nat) (δ0 : Nat → Nat → Nat) (κ1 : Nat → Nat) (δ1 : Nat → Nat → Nat) (fl : Nat → Int32) (n : Nat) (lt : Nat → Nat) (lf : Nat → Nat) (tk : Nat → Int32) (bt : Nat → Int32) (bw : Int32) (rf : Nat) (φt : Nat → Nat) (φ : Nat → Nat) (kf : Nat → Nat) (tr1 : Nat → Nat) (ch1 : Nat → Nat) (sp : Nat) (ou : Nat) (dia : Nat → Nat → Nat) (hJ : LJ ρ n lt nx ct rr dia φ fl κ0 kf κ1) (hw : xW G A s.heap (jW Y xo h0 h1 hh hb2 sl a0 a1 sv tz az mo tx nw tr dy kp ik td ch ot f ρ γ κ γ1 nx ct rr gg κ0 δ0 κ1 δ1 fl n lt lf tk bt bw rf φt φ kf tr1 ch1 sp ou dia) H locs) (hl : lv_has ls 7 [(0, .ref b), (1, .ref xo), (2, .ref mo), (3, .ref ot), (4, .int (nI i))]) (K : LK p l e R s m args below meth c G Y A b i xo h0 h1 hh hb2 sl a0 a1 sv tz az mo tx nw tr dy kp ik td ch ot (cells + 1) (slots + 6) Q) : W p l e R s m args below meth c H locs cells slots Q (F0 m 1006 ls []) := by
  obtain ⟨hI, hn, hlt, hr, hdi, hdv, hf0, hf1⟩ := hJ
  have hw : xW G A s.heap [outS Y ot f, [(xo, .inr (4, [.ref h0, .ref h1, .ref hh, .ref sl, .ref sv, .ref tz, .ref az]))], aucW Y h0 ρ γ, aucW Y h1 κ γ1, hisW Y hh hb2 nx ct, ringW Y hb2 rr gg, [(sl, .inl (Y 4, 2, .inr (.inr (.inr (.inr (fun k => some (if k = 0 then a0 else a1)))))))], aucW Y a0 κ0 δ0, aucW Y a1 κ1 δ1, [(sv, .inl (Y 1, 2, .inl fl))], txtW Y tz lt n, asgW Y az lf tk bt bw, [(mo, .inr (5, [.int (nI rf), .ref tx, .int (nI n), .ref nw, .ref tr, .ref dy, .int (nI ct), .ref kp, .ref ik, .ref td, .ref ch, .int (nI sp), .int (nI ou)]))], [(tx, .inl (Y 0, 120, .inl (rowF lt)))], [(nw, .inl (Y 0, 140, .inl (rowF ρ)))], [(tr, .inl (Y 0, 140, .inl (rowF φt)))], [(dy, .inl (Y 0, 1960, .inl (rowF φ)))], [(kp, .inl (Y 0, 280, .inl (rowF kf)))], [(ik, .inl (Y 1, 2, .inl fl))], [(td, .inl (Y 0, 6, .inl (rowF tr1)))], [(ch, .inl (Y 0, 6, .inl (rowF ch1)))]] H locs := hw
  obtain ⟨c1, e1⟩ : ∃ z, xs (i + 1) = z := ⟨_, rfl⟩
  obtain ⟨c2, e2⟩ : ∃ z, xs (i + 2) = z := ⟨_, rfl⟩
  obtain ⟨c3, e3⟩ : ∃ z, xs (i + 3) = z := ⟨_, rfl⟩
  have hcs : whyAsk ρ c1.toInt c2.toInt c3.toInt = 0 ∨ whyAsk ρ c1.toInt c2.toInt c3.toInt = 1 ∨ whyAsk ρ c1.toInt c2.toInt c3.toInt = 2 ∨ whyAsk ρ c1.toInt c2.toInt c3.toInt = 3 := cs_ask
  rcases hcs with hz | hz | hz | hz
  · have ha := ok_ask hz
    obtain ⟨j1, rfl, g1, z1⟩ := toN (x := c1) (by omega)
    obtain ⟨j2, rfl, g2, z2⟩ := toN (x := c2) (by omega)
    obtain ⟨j3, rfl, g3, z3⟩ := toN (x := c3) (by omega)
    rw [z1, z2, z3] at hz
    have hI2 : Inv (mAsk ρ j1 j2 j3) := by have z := Inv_dAsk (b := j1) (k := j2) (n := j3) hI; unfold dAsk at z; rwa [if_pos (show tAsk ρ j1 j2 j3 = 0 from hz)] at z
    refine case_ask E e1 e2 e3 hi (lk_ask l G Y xo ot _ _ _ f _ _ (k_X5_ask l G Y xo h0 h1 hh sl sv tz az hb2 nx ct rr gg (j1) (j2) (j3) ρ γ (hI) (hr.1) (hr.2.1) (g1) (g2) (g3) (hz)) rfl) (k_X6_ask l G Y mo rf tx n nw tr dy ct kp ik td ch sp ou (j1) (j2) (j3) ρ φ dia (hI) (hr.2.1) (hdi) (g1) (g2) (g3) (hz)) (by decide) (is := [0, 1, 2, 4, 5]) (isM := [12, 14, 16]) rfl (by decide) (by decide) hf hw hl ?_
    rintro _ _ ⟨rfl, _, _, ⟨rfl, γ', rfl⟩, rfl⟩
    refine ⟨rfl, ⟨_, rfl⟩, ?_⟩
    rintro _ _ ⟨rfl, φ', hm0, rfl⟩
    exact ⟨⟨_, 0, _, _, _, _, _, _, _, _, _, _, _, _, rfl, rfl, rfl, by decide, fun _ => rfl⟩, fun H locs ls hw hl => K _ (mAsk ρ j1 j2 j3) _ _ _ (nxt nx) (min (ct + 1) 14) (setR rr nx ρ) _ κ0 _ κ1 _ fl n lt _ _ _ _ _ _ φ' kf _ _ _ _ (diaPut ct dia ρ) ⟨hI2, hn, hlt, ring_rem hr, hm0, dia_inv hdv hI hr.2.1, hf0, hf1⟩ _ _ _ hw hl⟩
  · refine case_ask E e1 e2 e3 hi (lt_ask_1 l G Y xo ot _ _ _ f _ _ (t_X5_ask_1 l E.fl G Y xo h0 h1 hh sl sv tz az (c1) (c2) (c3) ρ γ (hI) (hz)) rfl) (f_X6_ask_1 l G Y mo rf tx n nw tr dy ct kp ik td ch sp ou (c1) (c2) (c3) ρ (hI) (hz)) (by decide) (is := [0, 1, 2]) (isM := [12, 14]) rfl (by decide) (by decide) hf hw hl ?_
    rintro _ _ ⟨rfl, rfl⟩
    refine ⟨rfl, ⟨_, rfl⟩, ?_⟩
    rintro _ _ ⟨rfl, rfl⟩
    exact ⟨⟨_, 1, _, _, _, _, _, _, _, _, _, _, _, _, rfl, rfl, rfl, by decide, fun z => absurd z (by decide)⟩, fun H locs ls hw hl => K _ ρ _ _ _ nx ct rr _ κ0 _ κ1 _ fl n lt _ _ _ _ _ _ φ kf _ _ _ _ dia ⟨hI, hn, hlt, hr, hdi, hdv, hf0, hf1⟩ _ _ _ hw hl⟩
  · refine case_ask E e1 e2 e3 hi (lt_ask_2 l G Y xo ot _ _ _ f _ _ (t_X5_ask_2 l E.fl G Y xo h0 h1 hh sl sv tz az (c1) (c2) (c3) ρ γ (hI) (hz)) rfl) (f_X6_ask_2 l G Y mo rf tx n nw tr dy ct kp ik td ch sp ou (c1) (c2) (c3) ρ (hI) (hz)) (by decide) (is := [0, 1, 2]) (isM := [12, 14]) rfl (by decide) (by decide) hf hw hl ?_
    rintro _ _ ⟨rfl, rfl⟩
    refine ⟨rfl, ⟨_, rfl⟩, ?_⟩
    rintro _ _ ⟨rfl, rfl⟩
    exact ⟨⟨_, 2, _, _, _, _, _, _, _, _, _, _, _, _, rfl, rfl, rfl, by decide, fun z => absurd z (by decide)⟩, fun H locs ls hw hl => K _ ρ _ _ _ nx ct rr _ κ0 _ κ1 _ fl n lt _ _ _ _ _ _ φ kf _ _ _ _ dia ⟨hI, hn, hlt, hr, hdi, hdv, hf0, hf1⟩ _ _ _ hw hl⟩
  · refine case_ask E e1 e2 e3 hi (lt_ask_3 l G Y xo ot _ _ _ f _ _ (t_X5_ask_3 l E.fl G Y xo h0 h1 hh sl sv tz az (c1) (c2) (c3) ρ γ (hI) (hz)) rfl) (f_X6_ask_3 l G Y mo rf tx n nw tr dy ct kp ik td ch sp ou (c1) (c2) (c3) ρ (hI) (hz)) (by decide) (is := [0, 1, 2]) (isM := [12, 14]) rfl (by decide) (by decide) hf hw hl ?_
    rintro _ _ ⟨rfl, rfl⟩
    refine ⟨rfl, ⟨_, rfl⟩, ?_⟩
    rintro _ _ ⟨rfl, rfl⟩
    exact ⟨⟨_, 3, _, _, _, _, _, _, _, _, _, _, _, _, rfl, rfl, rfl, by decide, fun z => absurd z (by decide)⟩, fun H locs ls hw hl => K _ ρ _ _ _ nx ct rr _ κ0 _ κ1 _ fl n lt _ _ _ _ _ _ φ kf _ _ _ _ dia ⟨hI, hn, hlt, hr, hdi, hdv, hf0, hf1⟩ _ _ _ hw hl⟩
set_option maxHeartbeats 4000000 in
theorem step_bid (E : LE p l R s m args c G Y A b L xs) (hi : i + 6 ≤ L) (hf : cells + 1 ≤ R.cells ∧ slots + 6 ≤ R.slots) (f : Nat → Int64) (ρ : Nat → Nat) (γ : Nat → Nat → Nat) (κ : Nat → Nat) (γ1 : Nat → Nat → Nat) (nx : Nat) (ct : Nat) (rr : Nat → Nat → Nat) (gg : Nat → Nat → Nat → Nat) (κ0 : Nat → Nat) (δ0 : Nat → Nat → Nat) (κ1 : Nat → Nat) (δ1 : Nat → Nat → Nat) (fl : Nat → Int32) (n : Nat) (lt : Nat → Nat) (lf : Nat → Nat) (tk : Nat → Int32) (bt : Nat → Int32) (bw : Int32) (rf : Nat) (φt : Nat → Nat) (φ : Nat → Nat) (kf : Nat → Nat) (tr1 : Nat → Nat) (ch1 : Nat → Nat) (sp : Nat) (ou : Nat) (dia : Nat → Nat → Nat) (hJ : LJ ρ n lt nx ct rr dia φ fl κ0 kf κ1) (hw : xW G A s.heap (jW Y xo h0 h1 hh hb2 sl a0 a1 sv tz az mo tx nw tr dy kp ik td ch ot f ρ γ κ γ1 nx ct rr gg κ0 δ0 κ1 δ1 fl n lt lf tk bt bw rf φt φ kf tr1 ch1 sp ou dia) H locs) (hl : lv_has ls 7 [(0, .ref b), (1, .ref xo), (2, .ref mo), (3, .ref ot), (4, .int (nI i))]) (K : LK p l e R s m args below meth c G Y A b i xo h0 h1 hh hb2 sl a0 a1 sv tz az mo tx nw tr dy kp ik td ch ot (cells + 1) (slots + 6) Q) : W p l e R s m args below meth c H locs cells slots Q (F0 m 1086 ls []) := by
  obtain ⟨hI, hn, hlt, hr, hdi, hdv, hf0, hf1⟩ := hJ
  have hw : xW G A s.heap [outS Y ot f, [(xo, .inr (4, [.ref h0, .ref h1, .ref hh, .ref sl, .ref sv, .ref tz, .ref az]))], aucW Y h0 ρ γ, aucW Y h1 κ γ1, hisW Y hh hb2 nx ct, ringW Y hb2 rr gg, [(sl, .inl (Y 4, 2, .inr (.inr (.inr (.inr (fun k => some (if k = 0 then a0 else a1)))))))], aucW Y a0 κ0 δ0, aucW Y a1 κ1 δ1, [(sv, .inl (Y 1, 2, .inl fl))], txtW Y tz lt n, asgW Y az lf tk bt bw, [(mo, .inr (5, [.int (nI rf), .ref tx, .int (nI n), .ref nw, .ref tr, .ref dy, .int (nI ct), .ref kp, .ref ik, .ref td, .ref ch, .int (nI sp), .int (nI ou)]))], [(tx, .inl (Y 0, 120, .inl (rowF lt)))], [(nw, .inl (Y 0, 140, .inl (rowF ρ)))], [(tr, .inl (Y 0, 140, .inl (rowF φt)))], [(dy, .inl (Y 0, 1960, .inl (rowF φ)))], [(kp, .inl (Y 0, 280, .inl (rowF kf)))], [(ik, .inl (Y 1, 2, .inl fl))], [(td, .inl (Y 0, 6, .inl (rowF tr1)))], [(ch, .inl (Y 0, 6, .inl (rowF ch1)))]] H locs := hw
  obtain ⟨c1, e1⟩ : ∃ z, xs (i + 1) = z := ⟨_, rfl⟩
  have hcs : whyBid ρ c1.toInt = 0 ∨ whyBid ρ c1.toInt = 1 ∨ whyBid ρ c1.toInt = 3 := cs_bid
  rcases hcs with hz | hz | hz
  · have ha := ok_bid hz
    obtain ⟨j1, rfl, g1, z1⟩ := toN (x := c1) (by omega)
    rw [z1] at hz
    have hI2 : Inv (mBid ρ j1) := by have z := Inv_dBid (b := j1) hI; unfold dBid at z; rwa [if_pos (show tBid ρ j1 = 0 from hz)] at z
    refine case_bid E e1 hi (lk_bid l G Y xo ot _ f _ _ (k_X5_bid l G Y xo h0 h1 hh sl sv tz az hb2 nx ct rr gg (j1) ρ γ (hI) (hr.1) (hr.2.1) (g1) (hz)) rfl) (k_X6_bid l G Y mo rf tx n nw tr dy ct kp ik td ch sp ou (j1) ρ φ dia (hI) (hr.2.1) (hdi) (g1) (hz)) (by decide) (is := [0, 1, 2, 4, 5]) (isM := [12, 14, 16]) rfl (by decide) (by decide) hf hw hl ?_
    rintro _ _ ⟨rfl, _, _, ⟨rfl, γ', rfl⟩, rfl⟩
    refine ⟨rfl, ⟨_, rfl⟩, ?_⟩
    rintro _ _ ⟨rfl, φ', hm0, rfl⟩
    exact ⟨⟨_, 0, _, _, _, _, _, _, _, _, _, _, _, _, rfl, rfl, rfl, by decide, fun _ => rfl⟩, fun H locs ls hw hl => K _ (mBid ρ j1) _ _ _ (nxt nx) (min (ct + 1) 14) (setR rr nx ρ) _ κ0 _ κ1 _ fl n lt _ _ _ _ _ _ φ' kf _ _ _ _ (diaPut ct dia ρ) ⟨hI2, hn, hlt, ring_rem hr, hm0, dia_inv hdv hI hr.2.1, hf0, hf1⟩ _ _ _ hw hl⟩
  · refine case_bid E e1 hi (lt_bid_1 l G Y xo ot _ f _ _ (t_X5_bid_1 l E.fl G Y xo h0 h1 hh sl sv tz az (c1) ρ γ (hI) (hz)) rfl) (f_X6_bid_1 l G Y mo rf tx n nw tr dy ct kp ik td ch sp ou (c1) ρ (hI) (hz)) (by decide) (is := [0, 1, 2]) (isM := [12, 14]) rfl (by decide) (by decide) hf hw hl ?_
    rintro _ _ ⟨rfl, rfl⟩
    refine ⟨rfl, ⟨_, rfl⟩, ?_⟩
    rintro _ _ ⟨rfl, rfl⟩
    exact ⟨⟨_, 1, _, _, _, _, _, _, _, _, _, _, _, _, rfl, rfl, rfl, by decide, fun z => absurd z (by decide)⟩, fun H locs ls hw hl => K _ ρ _ _ _ nx ct rr _ κ0 _ κ1 _ fl n lt _ _ _ _ _ _ φ kf _ _ _ _ dia ⟨hI, hn, hlt, hr, hdi, hdv, hf0, hf1⟩ _ _ _ hw hl⟩
  · refine case_bid E e1 hi (lt_bid_2 l G Y xo ot _ f _ _ (t_X5_bid_3 l E.fl G Y xo h0 h1 hh sl sv tz az (c1) ρ γ (hI) (hz)) rfl) (f_X6_bid_3 l G Y mo rf tx n nw tr dy ct kp ik td ch sp ou (c1) ρ (hI) (hz)) (by decide) (is := [0, 1, 2]) (isM := [12, 14]) rfl (by decide) (by decide) hf hw hl ?_
    rintro _ _ ⟨rfl, rfl⟩
    refine ⟨rfl, ⟨_, rfl⟩, ?_⟩
    rintro _ _ ⟨rfl, rfl⟩
    exact ⟨⟨_, 2, _, _, _, _, _, _, _, _, _, _, _, _, rfl, rfl, rfl, by decide, fun z => absurd z (by decide)⟩, fun H locs ls hw hl => K _ ρ _ _ _ nx ct rr _ κ0 _ κ1 _ fl n lt _ _ _ _ _ _ φ kf _ _ _ _ dia ⟨hI, hn, hlt, hr, hdi, hdv, hf0, hf1⟩ _ _ _ hw hl⟩
set_option maxHeartbeats 4000000 in
theorem step_close (E : LE p l R s m args c G Y A b L xs) (hi : i + 6 ≤ L) (hf : cells + 1 ≤ R.cells ∧ slots + 6 ≤ R.slots) (f : Nat → Int64) (ρ : Nat → Nat) (γ : Nat → Nat → Nat) (κ : Nat → Nat) (γ1 : Nat → Nat → Nat) (nx : Nat) (ct : Nat) (rr : Nat → Nat → Nat) (gg : Nat → Nat → Nat → Nat) (κ0 : Nat → Nat) (δ0 : Nat → Nat → Nat) (κ1 : Nat → Nat) (δ1 : Nat → Nat → Nat) (fl : Nat → Int32) (n : Nat) (lt : Nat → Nat) (lf : Nat → Nat) (tk : Nat → Int32) (bt : Nat → Int32) (bw : Int32) (rf : Nat) (φt : Nat → Nat) (φ : Nat → Nat) (kf : Nat → Nat) (tr1 : Nat → Nat) (ch1 : Nat → Nat) (sp : Nat) (ou : Nat) (dia : Nat → Nat → Nat) (hJ : LJ ρ n lt nx ct rr dia φ fl κ0 kf κ1) (hw : xW G A s.heap (jW Y xo h0 h1 hh hb2 sl a0 a1 sv tz az mo tx nw tr dy kp ik td ch ot f ρ γ κ γ1 nx ct rr gg κ0 δ0 κ1 δ1 fl n lt lf tk bt bw rf φt φ kf tr1 ch1 sp ou dia) H locs) (hl : lv_has ls 7 [(0, .ref b), (1, .ref xo), (2, .ref mo), (3, .ref ot), (4, .int (nI i))]) (K : LK p l e R s m args below meth c G Y A b i xo h0 h1 hh hb2 sl a0 a1 sv tz az mo tx nw tr dy kp ik td ch ot (cells + 1) (slots + 6) Q) : W p l e R s m args below meth c H locs cells slots Q (F0 m 1142 ls []) := by
  obtain ⟨hI, hn, hlt, hr, hdi, hdv, hf0, hf1⟩ := hJ
  have hw : xW G A s.heap [outS Y ot f, [(xo, .inr (4, [.ref h0, .ref h1, .ref hh, .ref sl, .ref sv, .ref tz, .ref az]))], aucW Y h0 ρ γ, aucW Y h1 κ γ1, hisW Y hh hb2 nx ct, ringW Y hb2 rr gg, [(sl, .inl (Y 4, 2, .inr (.inr (.inr (.inr (fun k => some (if k = 0 then a0 else a1)))))))], aucW Y a0 κ0 δ0, aucW Y a1 κ1 δ1, [(sv, .inl (Y 1, 2, .inl fl))], txtW Y tz lt n, asgW Y az lf tk bt bw, [(mo, .inr (5, [.int (nI rf), .ref tx, .int (nI n), .ref nw, .ref tr, .ref dy, .int (nI ct), .ref kp, .ref ik, .ref td, .ref ch, .int (nI sp), .int (nI ou)]))], [(tx, .inl (Y 0, 120, .inl (rowF lt)))], [(nw, .inl (Y 0, 140, .inl (rowF ρ)))], [(tr, .inl (Y 0, 140, .inl (rowF φt)))], [(dy, .inl (Y 0, 1960, .inl (rowF φ)))], [(kp, .inl (Y 0, 280, .inl (rowF kf)))], [(ik, .inl (Y 1, 2, .inl fl))], [(td, .inl (Y 0, 6, .inl (rowF tr1)))], [(ch, .inl (Y 0, 6, .inl (rowF ch1)))]] H locs := hw
  have hcs : whyClose ρ  = 0 ∨ whyClose ρ  = 3 := cs_close
  rcases hcs with hz | hz
  · have ha := ok_close hz
    have hI2 : Inv (mClose ρ) := by have z := Inv_dClose  hI; unfold dClose at z; rwa [if_pos (show whyClose ρ = 0 from hz)] at z
    refine case_close E  hi (lk_close l G Y xo ot  f _ _ (k_X5_close l G Y xo h0 h1 hh sl sv tz az hb2 nx ct rr gg ρ γ (hI) (hr.1) (hr.2.1) (hz)) rfl) (k_X6_close l G Y mo rf tx n nw tr dy ct kp ik td ch sp ou ρ φ dia (hI) (hr.2.1) (hdi) (hz)) (by decide) (is := [0, 1, 2, 4, 5]) (isM := [12, 14, 16]) rfl (by decide) (by decide) hf hw hl ?_
    rintro _ _ ⟨rfl, _, _, ⟨rfl, γ', rfl⟩, rfl⟩
    refine ⟨rfl, ⟨_, rfl⟩, ?_⟩
    rintro _ _ ⟨rfl, φ', hm0, rfl⟩
    exact ⟨⟨_, 0, _, _, _, _, _, _, _, _, _, _, _, _, rfl, rfl, rfl, by decide, fun _ => rfl⟩, fun H locs ls hw hl => K _ (mClose ρ) _ _ _ (nxt nx) (min (ct + 1) 14) (setR rr nx ρ) _ κ0 _ κ1 _ fl n lt _ _ _ _ _ _ φ' kf _ _ _ _ (diaPut ct dia ρ) ⟨hI2, hn, hlt, ring_rem hr, hm0, dia_inv hdv hI hr.2.1, hf0, hf1⟩ _ _ _ hw hl⟩
  · refine case_close E  hi (lt_close_1 l G Y xo ot  f _ _ (t_X5_close_3 l E.fl G Y xo h0 h1 hh sl sv tz az ρ γ (hI) (hz)) rfl) (f_X6_close_3 l G Y mo rf tx n nw tr dy ct kp ik td ch sp ou ρ (hI) (hz)) (by decide) (is := [0, 1, 2]) (isM := [12, 14]) rfl (by decide) (by decide) hf hw hl ?_
    rintro _ _ ⟨rfl, rfl⟩
    refine ⟨rfl, ⟨_, rfl⟩, ?_⟩
    rintro _ _ ⟨rfl, rfl⟩
    exact ⟨⟨_, 1, _, _, _, _, _, _, _, _, _, _, _, _, rfl, rfl, rfl, by decide, fun z => absurd z (by decide)⟩, fun H locs ls hw hl => K _ ρ _ _ _ nx ct rr _ κ0 _ κ1 _ fl n lt _ _ _ _ _ _ φ kf _ _ _ _ dia ⟨hI, hn, hlt, hr, hdi, hdv, hf0, hf1⟩ _ _ _ hw hl⟩
set_option maxHeartbeats 4000000 in
theorem step_add (E : LE p l R s m args c G Y A b L xs) (hi : i + 6 ≤ L) (hf : cells + 1 ≤ R.cells ∧ slots + 6 ≤ R.slots) (f : Nat → Int64) (ρ : Nat → Nat) (γ : Nat → Nat → Nat) (κ : Nat → Nat) (γ1 : Nat → Nat → Nat) (nx : Nat) (ct : Nat) (rr : Nat → Nat → Nat) (gg : Nat → Nat → Nat → Nat) (κ0 : Nat → Nat) (δ0 : Nat → Nat → Nat) (κ1 : Nat → Nat) (δ1 : Nat → Nat → Nat) (fl : Nat → Int32) (n : Nat) (lt : Nat → Nat) (lf : Nat → Nat) (tk : Nat → Int32) (bt : Nat → Int32) (bw : Int32) (rf : Nat) (φt : Nat → Nat) (φ : Nat → Nat) (kf : Nat → Nat) (tr1 : Nat → Nat) (ch1 : Nat → Nat) (sp : Nat) (ou : Nat) (dia : Nat → Nat → Nat) (hJ : LJ ρ n lt nx ct rr dia φ fl κ0 kf κ1) (hw : xW G A s.heap (jW Y xo h0 h1 hh hb2 sl a0 a1 sv tz az mo tx nw tr dy kp ik td ch ot f ρ γ κ γ1 nx ct rr gg κ0 δ0 κ1 δ1 fl n lt lf tk bt bw rf φt φ kf tr1 ch1 sp ou dia) H locs) (hl : lv_has ls 7 [(0, .ref b), (1, .ref xo), (2, .ref mo), (3, .ref ot), (4, .int (nI i))]) (K : LK p l e R s m args below meth c G Y A b i xo h0 h1 hh hb2 sl a0 a1 sv tz az mo tx nw tr dy kp ik td ch ot (cells + 1) (slots + 6) Q) : W p l e R s m args below meth c H locs cells slots Q (F0 m 1186 ls []) := by
  obtain ⟨hI, hn, hlt, hr, hdi, hdv, hf0, hf1⟩ := hJ
  have hw : xW G A s.heap [outS Y ot f, [(xo, .inr (4, [.ref h0, .ref h1, .ref hh, .ref sl, .ref sv, .ref tz, .ref az]))], aucW Y h0 ρ γ, aucW Y h1 κ γ1, hisW Y hh hb2 nx ct, ringW Y hb2 rr gg, [(sl, .inl (Y 4, 2, .inr (.inr (.inr (.inr (fun k => some (if k = 0 then a0 else a1)))))))], aucW Y a0 κ0 δ0, aucW Y a1 κ1 δ1, [(sv, .inl (Y 1, 2, .inl fl))], txtW Y tz lt n, asgW Y az lf tk bt bw, [(mo, .inr (5, [.int (nI rf), .ref tx, .int (nI n), .ref nw, .ref tr, .ref dy, .int (nI ct), .ref kp, .ref ik, .ref td, .ref ch, .int (nI sp), .int (nI ou)]))], [(tx, .inl (Y 0, 120, .inl (rowF lt)))], [(nw, .inl (Y 0, 140, .inl (rowF ρ)))], [(tr, .inl (Y 0, 140, .inl (rowF φt)))], [(dy, .inl (Y 0, 1960, .inl (rowF φ)))], [(kp, .inl (Y 0, 280, .inl (rowF kf)))], [(ik, .inl (Y 1, 2, .inl fl))], [(td, .inl (Y 0, 6, .inl (rowF tr1)))], [(ch, .inl (Y 0, 6, .inl (rowF ch1)))]] H locs := hw
  obtain ⟨c1, e1⟩ : ∃ z, xs (i + 1) = z := ⟨_, rfl⟩
  obtain ⟨c2, e2⟩ : ∃ z, xs (i + 2) = z := ⟨_, rfl⟩
  obtain ⟨c3, e3⟩ : ∃ z, xs (i + 3) = z := ⟨_, rfl⟩
  obtain ⟨c4, e4⟩ : ∃ z, xs (i + 4) = z := ⟨_, rfl⟩
  obtain ⟨c5, e5⟩ : ∃ z, xs (i + 5) = z := ⟨_, rfl⟩
  have hcs : whyAdd ρ c1.toInt c2.toInt c3.toInt c4.toInt c5.toInt = 0 ∨ whyAdd ρ c1.toInt c2.toInt c3.toInt c4.toInt c5.toInt = 1 ∨ whyAdd ρ c1.toInt c2.toInt c3.toInt c4.toInt c5.toInt = 2 ∨ whyAdd ρ c1.toInt c2.toInt c3.toInt c4.toInt c5.toInt = 3 := cs_add
  rcases hcs with hz | hz | hz | hz
  · have ha := ok_add hz
    obtain ⟨j1, rfl, g1, z1⟩ := toN (x := c1) (by omega)
    obtain ⟨j2, rfl, g2, z2⟩ := toN (x := c2) (by omega)
    obtain ⟨j3, rfl, g3, z3⟩ := toN (x := c3) (by omega)
    obtain ⟨j4, rfl, g4, z4⟩ := toN (x := c4) (by omega)
    obtain ⟨j5, rfl, g5, z5⟩ := toN (x := c5) (by omega)
    rw [z1, z2, z3, z4, z5] at hz
    have hI2 : Inv (mAdd ρ j1 j2 j3 j4 j5) := by have z := Inv_dAdd (b := j1) (x := j2) (y := j3) (z := j4) (v := j5) hI; unfold dAdd at z; rwa [if_pos (show tAdd ρ j1 j2 j3 j4 j5 = 0 from hz)] at z
    refine case_add E e1 e2 e3 e4 e5 hi (lk_add l G Y xo ot _ _ _ _ _ f _ _ (k_X5_add l G Y xo h0 h1 hh sl sv tz az hb2 nx ct rr gg (j1) (j2) (j3) (j4) (j5) ρ γ (hI) (hr.1) (hr.2.1) (g1) (g2) (g3) (g4) (g5) (hz)) rfl) (k_X6_add l G Y mo rf tx n nw tr dy ct kp ik td ch sp ou (j1) (j2) (j3) (j4) (j5) ρ φ dia (hI) (hr.2.1) (hdi) (g1) (g2) (g3) (g4) (g5) (hz)) (by decide) (is := [0, 1, 2, 4, 5]) (isM := [12, 14, 16]) rfl (by decide) (by decide) hf hw hl ?_
    rintro _ _ ⟨rfl, _, _, ⟨rfl, γ', rfl⟩, rfl⟩
    refine ⟨rfl, ⟨_, rfl⟩, ?_⟩
    rintro _ _ ⟨rfl, φ', hm0, rfl⟩
    exact ⟨⟨_, 0, _, _, _, _, _, _, _, _, _, _, _, _, rfl, rfl, rfl, by decide, fun _ => rfl⟩, fun H locs ls hw hl => K _ (mAdd ρ j1 j2 j3 j4 j5) _ _ _ (nxt nx) (min (ct + 1) 14) (setR rr nx ρ) _ κ0 _ κ1 _ fl n lt _ _ _ _ _ _ φ' kf _ _ _ _ (diaPut ct dia ρ) ⟨hI2, hn, hlt, ring_rem hr, hm0, dia_inv hdv hI hr.2.1, hf0, hf1⟩ _ _ _ hw hl⟩
  · refine case_add E e1 e2 e3 e4 e5 hi (lt_add_1 l G Y xo ot _ _ _ _ _ f _ _ (t_X5_add_1 l E.fl G Y xo h0 h1 hh sl sv tz az (c1) (c2) (c3) (c4) (c5) ρ γ (hI) (hz)) rfl) (f_X6_add_1 l G Y mo rf tx n nw tr dy ct kp ik td ch sp ou (c1) (c2) (c3) (c4) (c5) ρ (hI) (hz)) (by decide) (is := [0, 1, 2]) (isM := [12, 14]) rfl (by decide) (by decide) hf hw hl ?_
    rintro _ _ ⟨rfl, rfl⟩
    refine ⟨rfl, ⟨_, rfl⟩, ?_⟩
    rintro _ _ ⟨rfl, rfl⟩
    exact ⟨⟨_, 1, _, _, _, _, _, _, _, _, _, _, _, _, rfl, rfl, rfl, by decide, fun z => absurd z (by decide)⟩, fun H locs ls hw hl => K _ ρ _ _ _ nx ct rr _ κ0 _ κ1 _ fl n lt _ _ _ _ _ _ φ kf _ _ _ _ dia ⟨hI, hn, hlt, hr, hdi, hdv, hf0, hf1⟩ _ _ _ hw hl⟩
  · refine case_add E e1 e2 e3 e4 e5 hi (lt_add_2 l G Y xo ot _ _ _ _ _ f _ _ (t_X5_add_2 l E.fl G Y xo h0 h1 hh sl sv tz az (c1) (c2) (c3) (c4) (c5) ρ γ (hI) (hz)) rfl) (f_X6_add_2 l G Y mo rf tx n nw tr dy ct kp ik td ch sp ou (c1) (c2) (c3) (c4) (c5) ρ (hI) (hz)) (by decide) (is := [0, 1, 2]) (isM := [12, 14]) rfl (by decide) (by decide) hf hw hl ?_
    rintro _ _ ⟨rfl, rfl⟩
    refine ⟨rfl, ⟨_, rfl⟩, ?_⟩
    rintro _ _ ⟨rfl, rfl⟩
    exact ⟨⟨_, 2, _, _, _, _, _, _, _, _, _, _, _, _, rfl, rfl, rfl, by decide, fun z => absurd z (by decide)⟩, fun H locs ls hw hl => K _ ρ _ _ _ nx ct rr _ κ0 _ κ1 _ fl n lt _ _ _ _ _ _ φ kf _ _ _ _ dia ⟨hI, hn, hlt, hr, hdi, hdv, hf0, hf1⟩ _ _ _ hw hl⟩
  · refine case_add E e1 e2 e3 e4 e5 hi (lt_add_3 l G Y xo ot _ _ _ _ _ f _ _ (t_X5_add_3 l E.fl G Y xo h0 h1 hh sl sv tz az (c1) (c2) (c3) (c4) (c5) ρ γ (hI) (hz)) rfl) (f_X6_add_3 l G Y mo rf tx n nw tr dy ct kp ik td ch sp ou (c1) (c2) (c3) (c4) (c5) ρ (hI) (hz)) (by decide) (is := [0, 1, 2]) (isM := [12, 14]) rfl (by decide) (by decide) hf hw hl ?_
    rintro _ _ ⟨rfl, rfl⟩
    refine ⟨rfl, ⟨_, rfl⟩, ?_⟩
    rintro _ _ ⟨rfl, rfl⟩
    exact ⟨⟨_, 3, _, _, _, _, _, _, _, _, _, _, _, _, rfl, rfl, rfl, by decide, fun z => absurd z (by decide)⟩, fun H locs ls hw hl => K _ ρ _ _ _ nx ct rr _ κ0 _ κ1 _ fl n lt _ _ _ _ _ _ φ kf _ _ _ _ dia ⟨hI, hn, hlt, hr, hdi, hdv, hf0, hf1⟩ _ _ _ hw hl⟩
set_option maxHeartbeats 4000000 in
theorem step_drop (E : LE p l R s m args c G Y A b L xs) (hi : i + 6 ≤ L) (hf : cells + 1 ≤ R.cells ∧ slots + 6 ≤ R.slots) (f : Nat → Int64) (ρ : Nat → Nat) (γ : Nat → Nat → Nat) (κ : Nat → Nat) (γ1 : Nat → Nat → Nat) (nx : Nat) (ct : Nat) (rr : Nat → Nat → Nat) (gg : Nat → Nat → Nat → Nat) (κ0 : Nat → Nat) (δ0 : Nat → Nat → Nat) (κ1 : Nat → Nat) (δ1 : Nat → Nat → Nat) (fl : Nat → Int32) (n : Nat) (lt : Nat → Nat) (lf : Nat → Nat) (tk : Nat → Int32) (bt : Nat → Int32) (bw : Int32) (rf : Nat) (φt : Nat → Nat) (φ : Nat → Nat) (kf : Nat → Nat) (tr1 : Nat → Nat) (ch1 : Nat → Nat) (sp : Nat) (ou : Nat) (dia : Nat → Nat → Nat) (hJ : LJ ρ n lt nx ct rr dia φ fl κ0 kf κ1) (hw : xW G A s.heap (jW Y xo h0 h1 hh hb2 sl a0 a1 sv tz az mo tx nw tr dy kp ik td ch ot f ρ γ κ γ1 nx ct rr gg κ0 δ0 κ1 δ1 fl n lt lf tk bt bw rf φt φ kf tr1 ch1 sp ou dia) H locs) (hl : lv_has ls 7 [(0, .ref b), (1, .ref xo), (2, .ref mo), (3, .ref ot), (4, .int (nI i))]) (K : LK p l e R s m args below meth c G Y A b i xo h0 h1 hh hb2 sl a0 a1 sv tz az mo tx nw tr dy kp ik td ch ot (cells + 1) (slots + 6) Q) : W p l e R s m args below meth c H locs cells slots Q (F0 m 1290 ls []) := by
  obtain ⟨hI, hn, hlt, hr, hdi, hdv, hf0, hf1⟩ := hJ
  have hw : xW G A s.heap [outS Y ot f, [(xo, .inr (4, [.ref h0, .ref h1, .ref hh, .ref sl, .ref sv, .ref tz, .ref az]))], aucW Y h0 ρ γ, aucW Y h1 κ γ1, hisW Y hh hb2 nx ct, ringW Y hb2 rr gg, [(sl, .inl (Y 4, 2, .inr (.inr (.inr (.inr (fun k => some (if k = 0 then a0 else a1)))))))], aucW Y a0 κ0 δ0, aucW Y a1 κ1 δ1, [(sv, .inl (Y 1, 2, .inl fl))], txtW Y tz lt n, asgW Y az lf tk bt bw, [(mo, .inr (5, [.int (nI rf), .ref tx, .int (nI n), .ref nw, .ref tr, .ref dy, .int (nI ct), .ref kp, .ref ik, .ref td, .ref ch, .int (nI sp), .int (nI ou)]))], [(tx, .inl (Y 0, 120, .inl (rowF lt)))], [(nw, .inl (Y 0, 140, .inl (rowF ρ)))], [(tr, .inl (Y 0, 140, .inl (rowF φt)))], [(dy, .inl (Y 0, 1960, .inl (rowF φ)))], [(kp, .inl (Y 0, 280, .inl (rowF kf)))], [(ik, .inl (Y 1, 2, .inl fl))], [(td, .inl (Y 0, 6, .inl (rowF tr1)))], [(ch, .inl (Y 0, 6, .inl (rowF ch1)))]] H locs := hw
  obtain ⟨c1, e1⟩ : ∃ z, xs (i + 1) = z := ⟨_, rfl⟩
  obtain ⟨c2, e2⟩ : ∃ z, xs (i + 2) = z := ⟨_, rfl⟩
  have hcs : whyDrop ρ c1.toInt c2.toInt = 0 ∨ whyDrop ρ c1.toInt c2.toInt = 1 := cs_drop
  rcases hcs with hz | hz
  · have ha := ok_drop hz
    obtain ⟨j1, rfl, g1, z1⟩ := toN (x := c1) (by omega)
    obtain ⟨j2, rfl, g2, z2⟩ := toN (x := c2) (by omega)
    rw [z1, z2] at hz
    have hI2 : Inv (mDrop ρ j1 j2) := by have z := Inv_dDrop (b := j1) (i := j2) hI; unfold dDrop at z; rwa [if_pos (show tDrop ρ j1 j2 = 0 from hz)] at z
    refine case_drop E e1 e2 hi (lk_drop l G Y xo ot _ _ f _ _ (k_X5_drop l G Y xo h0 h1 hh sl sv tz az hb2 nx ct rr gg (j1) (j2) ρ γ (hI) (hr.1) (hr.2.1) (g1) (g2) (hz)) rfl) (k_X6_drop l G Y mo rf tx n nw tr dy ct kp ik td ch sp ou (j1) (j2) ρ φ dia (hI) (hr.2.1) (hdi) (g1) (g2) (hz)) (by decide) (is := [0, 1, 2, 4, 5]) (isM := [12, 14, 16]) rfl (by decide) (by decide) hf hw hl ?_
    rintro _ _ ⟨rfl, _, _, ⟨rfl, γ', rfl⟩, rfl⟩
    refine ⟨rfl, ⟨_, rfl⟩, ?_⟩
    rintro _ _ ⟨rfl, φ', hm0, rfl⟩
    exact ⟨⟨_, 0, _, _, _, _, _, _, _, _, _, _, _, _, rfl, rfl, rfl, by decide, fun _ => rfl⟩, fun H locs ls hw hl => K _ (mDrop ρ j1 j2) _ _ _ (nxt nx) (min (ct + 1) 14) (setR rr nx ρ) _ κ0 _ κ1 _ fl n lt _ _ _ _ _ _ φ' kf _ _ _ _ (diaPut ct dia ρ) ⟨hI2, hn, hlt, ring_rem hr, hm0, dia_inv hdv hI hr.2.1, hf0, hf1⟩ _ _ _ hw hl⟩
  · refine case_drop E e1 e2 hi (lt_drop_1 l G Y xo ot _ _ f _ _ (t_X5_drop_1 l E.fl G Y xo h0 h1 hh sl sv tz az (c1) (c2) ρ γ (hI) (hz)) rfl) (f_X6_drop_1 l G Y mo rf tx n nw tr dy ct kp ik td ch sp ou (c1) (c2) ρ (hI) (hz)) (by decide) (is := [0, 1, 2]) (isM := [12, 14]) rfl (by decide) (by decide) hf hw hl ?_
    rintro _ _ ⟨rfl, rfl⟩
    refine ⟨rfl, ⟨_, rfl⟩, ?_⟩
    rintro _ _ ⟨rfl, rfl⟩
    exact ⟨⟨_, 1, _, _, _, _, _, _, _, _, _, _, _, _, rfl, rfl, rfl, by decide, fun z => absurd z (by decide)⟩, fun H locs ls hw hl => K _ ρ _ _ _ nx ct rr _ κ0 _ κ1 _ fl n lt _ _ _ _ _ _ φ kf _ _ _ _ dia ⟨hI, hn, hlt, hr, hdi, hdv, hf0, hf1⟩ _ _ _ hw hl⟩
set_option maxHeartbeats 4000000 in
theorem step_set (E : LE p l R s m args c G Y A b L xs) (hi : i + 6 ≤ L) (hf : cells + 1 ≤ R.cells ∧ slots + 6 ≤ R.slots) (f : Nat → Int64) (ρ : Nat → Nat) (γ : Nat → Nat → Nat) (κ : Nat → Nat) (γ1 : Nat → Nat → Nat) (nx : Nat) (ct : Nat) (rr : Nat → Nat → Nat) (gg : Nat → Nat → Nat → Nat) (κ0 : Nat → Nat) (δ0 : Nat → Nat → Nat) (κ1 : Nat → Nat) (δ1 : Nat → Nat → Nat) (fl : Nat → Int32) (n : Nat) (lt : Nat → Nat) (lf : Nat → Nat) (tk : Nat → Int32) (bt : Nat → Int32) (bw : Int32) (rf : Nat) (φt : Nat → Nat) (φ : Nat → Nat) (kf : Nat → Nat) (tr1 : Nat → Nat) (ch1 : Nat → Nat) (sp : Nat) (ou : Nat) (dia : Nat → Nat → Nat) (hJ : LJ ρ n lt nx ct rr dia φ fl κ0 kf κ1) (hw : xW G A s.heap (jW Y xo h0 h1 hh hb2 sl a0 a1 sv tz az mo tx nw tr dy kp ik td ch ot f ρ γ κ γ1 nx ct rr gg κ0 δ0 κ1 δ1 fl n lt lf tk bt bw rf φt φ kf tr1 ch1 sp ou dia) H locs) (hl : lv_has ls 7 [(0, .ref b), (1, .ref xo), (2, .ref mo), (3, .ref ot), (4, .int (nI i))]) (K : LK p l e R s m args below meth c G Y A b i xo h0 h1 hh hb2 sl a0 a1 sv tz az mo tx nw tr dy kp ik td ch ot (cells + 1) (slots + 6) Q) : W p l e R s m args below meth c H locs cells slots Q (F0 m 1358 ls []) := by
  obtain ⟨hI, hn, hlt, hr, hdi, hdv, hf0, hf1⟩ := hJ
  have hw : xW G A s.heap [outS Y ot f, [(xo, .inr (4, [.ref h0, .ref h1, .ref hh, .ref sl, .ref sv, .ref tz, .ref az]))], aucW Y h0 ρ γ, aucW Y h1 κ γ1, hisW Y hh hb2 nx ct, ringW Y hb2 rr gg, [(sl, .inl (Y 4, 2, .inr (.inr (.inr (.inr (fun k => some (if k = 0 then a0 else a1)))))))], aucW Y a0 κ0 δ0, aucW Y a1 κ1 δ1, [(sv, .inl (Y 1, 2, .inl fl))], txtW Y tz lt n, asgW Y az lf tk bt bw, [(mo, .inr (5, [.int (nI rf), .ref tx, .int (nI n), .ref nw, .ref tr, .ref dy, .int (nI ct), .ref kp, .ref ik, .ref td, .ref ch, .int (nI sp), .int (nI ou)]))], [(tx, .inl (Y 0, 120, .inl (rowF lt)))], [(nw, .inl (Y 0, 140, .inl (rowF ρ)))], [(tr, .inl (Y 0, 140, .inl (rowF φt)))], [(dy, .inl (Y 0, 1960, .inl (rowF φ)))], [(kp, .inl (Y 0, 280, .inl (rowF kf)))], [(ik, .inl (Y 1, 2, .inl fl))], [(td, .inl (Y 0, 6, .inl (rowF tr1)))], [(ch, .inl (Y 0, 6, .inl (rowF ch1)))]] H locs := hw
  obtain ⟨c1, e1⟩ : ∃ z, xs (i + 1) = z := ⟨_, rfl⟩
  obtain ⟨c2, e2⟩ : ∃ z, xs (i + 2) = z := ⟨_, rfl⟩
  have hcs : whySet c1.toInt c2.toInt = 0 ∨ whySet c1.toInt c2.toInt = 2 := cs_set
  rcases hcs with hz | hz
  · have ha := ok_set hz
    obtain ⟨j1, rfl, g1, z1⟩ := toN (x := c1) (by omega)
    obtain ⟨j2, rfl, g2, z2⟩ := toN (x := c2) (by omega)
    rw [z1, z2] at hz
    have hI2 : Inv (mSet ρ (j1 : Int) j2) := by have z := Inv_dSet (w := j1) (v := j2) hI; unfold dSet at z; rwa [if_pos (show tSet j1 j2 = 0 from hz)] at z
    refine case_set E e1 e2 hi (lk_set l G Y xo ot _ _ f _ _ (k_X5_set l G Y xo h0 h1 hh sl sv tz az hb2 nx ct rr gg (j1) (j2) ρ γ (hI) (hr.1) (hr.2.1) (g1) (g2) (hz)) rfl) (k_X6_set l G Y mo rf tx n nw tr dy ct kp ik td ch sp ou (j1) (j2) ρ φ dia (hI) (hr.2.1) (hdi) (g1) (g2) (hz)) (by decide) (is := [0, 1, 2, 4, 5]) (isM := [12, 14, 16]) rfl (by decide) (by decide) hf hw hl ?_
    rintro _ _ ⟨rfl, _, _, ⟨rfl, γ', rfl⟩, rfl⟩
    refine ⟨rfl, ⟨_, rfl⟩, ?_⟩
    rintro _ _ ⟨rfl, φ', hm0, rfl⟩
    exact ⟨⟨_, 0, _, _, _, _, _, _, _, _, _, _, _, _, rfl, rfl, rfl, by decide, fun _ => rfl⟩, fun H locs ls hw hl => K _ (mSet ρ (j1 : Int) j2) _ _ _ (nxt nx) (min (ct + 1) 14) (setR rr nx ρ) _ κ0 _ κ1 _ fl n lt _ _ _ _ _ _ φ' kf _ _ _ _ (diaPut ct dia ρ) ⟨hI2, hn, hlt, ring_rem hr, hm0, dia_inv hdv hI hr.2.1, hf0, hf1⟩ _ _ _ hw hl⟩
  · refine case_set E e1 e2 hi (lt_set_1 l G Y xo ot _ _ f _ _ (t_X5_set_2 l E.fl G Y xo h0 h1 hh sl sv tz az (c1) (c2) ρ γ (hI) (hz)) rfl) (f_X6_set_2 l G Y mo rf tx n nw tr dy ct kp ik td ch sp ou (c1) (c2) ρ (hI) (hz)) (by decide) (is := [0, 1, 2]) (isM := [12, 14]) rfl (by decide) (by decide) hf hw hl ?_
    rintro _ _ ⟨rfl, rfl⟩
    refine ⟨rfl, ⟨_, rfl⟩, ?_⟩
    rintro _ _ ⟨rfl, rfl⟩
    exact ⟨⟨_, 1, _, _, _, _, _, _, _, _, _, _, _, _, rfl, rfl, rfl, by decide, fun z => absurd z (by decide)⟩, fun H locs ls hw hl => K _ ρ _ _ _ nx ct rr _ κ0 _ κ1 _ fl n lt _ _ _ _ _ _ φ kf _ _ _ _ dia ⟨hI, hn, hlt, hr, hdi, hdv, hf0, hf1⟩ _ _ _ hw hl⟩
set_option maxHeartbeats 4000000 in
theorem step_clearText (E : LE p l R s m args c G Y A b L xs) (hi : i + 6 ≤ L) (hf : cells + 1 ≤ R.cells ∧ slots + 6 ≤ R.slots) (f : Nat → Int64) (ρ : Nat → Nat) (γ : Nat → Nat → Nat) (κ : Nat → Nat) (γ1 : Nat → Nat → Nat) (nx : Nat) (ct : Nat) (rr : Nat → Nat → Nat) (gg : Nat → Nat → Nat → Nat) (κ0 : Nat → Nat) (δ0 : Nat → Nat → Nat) (κ1 : Nat → Nat) (δ1 : Nat → Nat → Nat) (fl : Nat → Int32) (n : Nat) (lt : Nat → Nat) (lf : Nat → Nat) (tk : Nat → Int32) (bt : Nat → Int32) (bw : Int32) (rf : Nat) (φt : Nat → Nat) (φ : Nat → Nat) (kf : Nat → Nat) (tr1 : Nat → Nat) (ch1 : Nat → Nat) (sp : Nat) (ou : Nat) (dia : Nat → Nat → Nat) (hJ : LJ ρ n lt nx ct rr dia φ fl κ0 kf κ1) (hw : xW G A s.heap (jW Y xo h0 h1 hh hb2 sl a0 a1 sv tz az mo tx nw tr dy kp ik td ch ot f ρ γ κ γ1 nx ct rr gg κ0 δ0 κ1 δ1 fl n lt lf tk bt bw rf φt φ kf tr1 ch1 sp ou dia) H locs) (hl : lv_has ls 7 [(0, .ref b), (1, .ref xo), (2, .ref mo), (3, .ref ot), (4, .int (nI i))]) (K : LK p l e R s m args below meth c G Y A b i xo h0 h1 hh hb2 sl a0 a1 sv tz az mo tx nw tr dy kp ik td ch ot (cells + 1) (slots + 6) Q) : W p l e R s m args below meth c H locs cells slots Q (F0 m 244 ls []) := by
  obtain ⟨hI, hn, hlt, hr, hdi, hdv, hf0, hf1⟩ := hJ
  have hw : xW G A s.heap [outS Y ot f, [(xo, .inr (4, [.ref h0, .ref h1, .ref hh, .ref sl, .ref sv, .ref tz, .ref az]))], aucW Y h0 ρ γ, aucW Y h1 κ γ1, hisW Y hh hb2 nx ct, ringW Y hb2 rr gg, [(sl, .inl (Y 4, 2, .inr (.inr (.inr (.inr (fun k => some (if k = 0 then a0 else a1)))))))], aucW Y a0 κ0 δ0, aucW Y a1 κ1 δ1, [(sv, .inl (Y 1, 2, .inl fl))], txtW Y tz lt n, asgW Y az lf tk bt bw, [(mo, .inr (5, [.int (nI rf), .ref tx, .int (nI n), .ref nw, .ref tr, .ref dy, .int (nI ct), .ref kp, .ref ik, .ref td, .ref ch, .int (nI sp), .int (nI ou)]))], [(tx, .inl (Y 0, 120, .inl (rowF lt)))], [(nw, .inl (Y 0, 140, .inl (rowF ρ)))], [(tr, .inl (Y 0, 140, .inl (rowF φt)))], [(dy, .inl (Y 0, 1960, .inl (rowF φ)))], [(kp, .inl (Y 0, 280, .inl (rowF kf)))], [(ik, .inl (Y 1, 2, .inl fl))], [(td, .inl (Y 0, 6, .inl (rowF tr1)))], [(ch, .inl (Y 0, 6, .inl (rowF ch1)))]] H locs := hw
  obtain ⟨hx, hb, -⟩ := id E.M
  have hRR := E.hR
  refine lv_aload_n hx hb dL_law_244 rfl (lv_at hl 1 rfl) ?_
  refine x_cVI (As := []) (k_X5_clearText l G Y xo h0 h1 hh sl sv tz az n lt (hn) (hlt)) cw_L_119 [1, 10] 1 0 E.M E.hK E.hZ hw hl.1 rfl (by decide) rfl rfl rfl ⟨by omega, by omega⟩ ⟨by omega, by omega⟩ rfl rfl (Nat.le_of_ble_eq_true rfl) dL_law_245 ?_
  rintro _ _ ⟨rfl, rfl⟩ H locs hw
  refine lv_aload_n hx hb dL_law_248 rfl (lv_at hl 2 rfl) ?_
  refine x_cVI (As := []) (k_X6_clearText l G Y mo rf tx n nw tr dy ct kp ik td ch sp ou) cw_L_122 [12] 12 0 E.M E.hK E.hZ hw hl.1 rfl (by decide) rfl rfl rfl ⟨by omega, by omega⟩ ⟨by omega, by omega⟩ rfl rfl (Nat.le_of_ble_eq_true rfl) dL_law_249 ?_
  rintro _ _ ⟨rfl, rfl⟩ H locs hw
  refine lv_icmp_eq (tgt := 2113) hx hb dL_law_252 (by decide) (fun _ => ?_) (fun z => absurd rfl z)
  exact W_widen (Nat.le_add_right _ _) (Nat.le_add_right _ _) (K _ ρ _ _ _ nx ct rr _ κ0 _ κ1 _ fl 0 lt _ _ _ _ _ _ φ kf _ _ _ _ dia ⟨hI, Nat.zero_le _, hlt, hr, hdi, hdv, hf0, hf1⟩ _ _ _ hw hl)
set_option maxHeartbeats 4000000 in
theorem step_errorPosition (E : LE p l R s m args c G Y A b L xs) (hi : i + 6 ≤ L) (hf : cells + 1 ≤ R.cells ∧ slots + 6 ≤ R.slots) (f : Nat → Int64) (ρ : Nat → Nat) (γ : Nat → Nat → Nat) (κ : Nat → Nat) (γ1 : Nat → Nat → Nat) (nx : Nat) (ct : Nat) (rr : Nat → Nat → Nat) (gg : Nat → Nat → Nat → Nat) (κ0 : Nat → Nat) (δ0 : Nat → Nat → Nat) (κ1 : Nat → Nat) (δ1 : Nat → Nat → Nat) (fl : Nat → Int32) (n : Nat) (lt : Nat → Nat) (lf : Nat → Nat) (tk : Nat → Int32) (bt : Nat → Int32) (bw : Int32) (rf : Nat) (φt : Nat → Nat) (φ : Nat → Nat) (kf : Nat → Nat) (tr1 : Nat → Nat) (ch1 : Nat → Nat) (sp : Nat) (ou : Nat) (dia : Nat → Nat → Nat) (hJ : LJ ρ n lt nx ct rr dia φ fl κ0 kf κ1) (hw : xW G A s.heap (jW Y xo h0 h1 hh hb2 sl a0 a1 sv tz az mo tx nw tr dy kp ik td ch ot f ρ γ κ γ1 nx ct rr gg κ0 δ0 κ1 δ1 fl n lt lf tk bt bw rf φt φ kf tr1 ch1 sp ou dia) H locs) (hl : lv_has ls 7 [(0, .ref b), (1, .ref xo), (2, .ref mo), (3, .ref ot), (4, .int (nI i))]) (K : LK p l e R s m args below meth c G Y A b i xo h0 h1 hh hb2 sl a0 a1 sv tz az mo tx nw tr dy kp ik td ch ot (cells + 1) (slots + 6) Q) : W p l e R s m args below meth c H locs cells slots Q (F0 m 257 ls []) := by
  obtain ⟨hI, hn, hlt, hr, hdi, hdv, hf0, hf1⟩ := hJ
  have hw : xW G A s.heap [outS Y ot f, [(xo, .inr (4, [.ref h0, .ref h1, .ref hh, .ref sl, .ref sv, .ref tz, .ref az]))], aucW Y h0 ρ γ, aucW Y h1 κ γ1, hisW Y hh hb2 nx ct, ringW Y hb2 rr gg, [(sl, .inl (Y 4, 2, .inr (.inr (.inr (.inr (fun k => some (if k = 0 then a0 else a1)))))))], aucW Y a0 κ0 δ0, aucW Y a1 κ1 δ1, [(sv, .inl (Y 1, 2, .inl fl))], txtW Y tz lt n, asgW Y az lf tk bt bw, [(mo, .inr (5, [.int (nI rf), .ref tx, .int (nI n), .ref nw, .ref tr, .ref dy, .int (nI ct), .ref kp, .ref ik, .ref td, .ref ch, .int (nI sp), .int (nI ou)]))], [(tx, .inl (Y 0, 120, .inl (rowF lt)))], [(nw, .inl (Y 0, 140, .inl (rowF ρ)))], [(tr, .inl (Y 0, 140, .inl (rowF φt)))], [(dy, .inl (Y 0, 1960, .inl (rowF φ)))], [(kp, .inl (Y 0, 280, .inl (rowF kf)))], [(ik, .inl (Y 1, 2, .inl fl))], [(td, .inl (Y 0, 6, .inl (rowF tr1)))], [(ch, .inl (Y 0, 6, .inl (rowF ch1)))]] H locs := hw
  obtain ⟨hx, hb, -⟩ := id E.M
  have hRR := E.hR
  refine lv_aload_n hx hb dL_law_257 rfl (lv_at hl 1 rfl) ?_
  refine x_cVI (As := []) (k_X5_errorPosition l G Y xo h0 h1 hh sl sv tz az n lt (hn) (hlt)) cw_L_123 [1, 10] 1 0 E.M E.hK E.hZ hw hl.1 rfl (by decide) rfl rfl rfl ⟨by omega, by omega⟩ ⟨by omega, by omega⟩ rfl rfl (Nat.le_of_ble_eq_true rfl) dL_law_258 ?_
  rintro _ _ ⟨rfl, rfl⟩ H locs hw
  refine lv_aload_n hx hb dL_law_261 rfl (lv_at hl 2 rfl) ?_
  refine x_cVI (As := []) (k_X6_errorPosition l G Y mo rf tx n nw tr dy ct kp ik td ch sp ou lt φt (hn) (hlt)) cw_L_126 [12, 13, 15] 12 0 E.M E.hK E.hZ hw hl.1 rfl (by decide) rfl rfl rfl ⟨by omega, by omega⟩ ⟨by omega, by omega⟩ rfl rfl (Nat.le_of_ble_eq_true rfl) dL_law_262 ?_
  rintro _ _ ⟨rfl, sp', ou', σ, rfl⟩ H locs hw
  refine lv_icmp_eq (tgt := 2113) hx hb dL_law_265 (by decide) (fun _ => ?_) (fun z => absurd rfl z)
  exact W_widen (Nat.le_add_right _ _) (Nat.le_add_right _ _) (K _ ρ _ _ _ nx ct rr _ κ0 _ κ1 _ fl n lt _ _ _ _ _ _ φ kf _ _ _ _ dia ⟨hI, hn, hlt, hr, hdi, hdv, hf0, hf1⟩ _ _ _ hw hl)
set_option maxHeartbeats 4000000 in
theorem step_best (E : LE p l R s m args c G Y A b L xs) (hi : i + 6 ≤ L) (hf : cells + 1 ≤ R.cells ∧ slots + 6 ≤ R.slots) (f : Nat → Int64) (ρ : Nat → Nat) (γ : Nat → Nat → Nat) (κ : Nat → Nat) (γ1 : Nat → Nat → Nat) (nx : Nat) (ct : Nat) (rr : Nat → Nat → Nat) (gg : Nat → Nat → Nat → Nat) (κ0 : Nat → Nat) (δ0 : Nat → Nat → Nat) (κ1 : Nat → Nat) (δ1 : Nat → Nat → Nat) (fl : Nat → Int32) (n : Nat) (lt : Nat → Nat) (lf : Nat → Nat) (tk : Nat → Int32) (bt : Nat → Int32) (bw : Int32) (rf : Nat) (φt : Nat → Nat) (φ : Nat → Nat) (kf : Nat → Nat) (tr1 : Nat → Nat) (ch1 : Nat → Nat) (sp : Nat) (ou : Nat) (dia : Nat → Nat → Nat) (hJ : LJ ρ n lt nx ct rr dia φ fl κ0 kf κ1) (hw : xW G A s.heap (jW Y xo h0 h1 hh hb2 sl a0 a1 sv tz az mo tx nw tr dy kp ik td ch ot f ρ γ κ γ1 nx ct rr gg κ0 δ0 κ1 δ1 fl n lt lf tk bt bw rf φt φ kf tr1 ch1 sp ou dia) H locs) (hl : lv_has ls 7 [(0, .ref b), (1, .ref xo), (2, .ref mo), (3, .ref ot), (4, .int (nI i))]) (K : LK p l e R s m args below meth c G Y A b i xo h0 h1 hh hb2 sl a0 a1 sv tz az mo tx nw tr dy kp ik td ch ot (cells + 1) (slots + 6) Q) : W p l e R s m args below meth c H locs cells slots Q (F0 m 1470 ls []) := by
  obtain ⟨hI, hn, hlt, hr, hdi, hdv, hf0, hf1⟩ := hJ
  have hw : xW G A s.heap [outS Y ot f, [(xo, .inr (4, [.ref h0, .ref h1, .ref hh, .ref sl, .ref sv, .ref tz, .ref az]))], aucW Y h0 ρ γ, aucW Y h1 κ γ1, hisW Y hh hb2 nx ct, ringW Y hb2 rr gg, [(sl, .inl (Y 4, 2, .inr (.inr (.inr (.inr (fun k => some (if k = 0 then a0 else a1)))))))], aucW Y a0 κ0 δ0, aucW Y a1 κ1 δ1, [(sv, .inl (Y 1, 2, .inl fl))], txtW Y tz lt n, asgW Y az lf tk bt bw, [(mo, .inr (5, [.int (nI rf), .ref tx, .int (nI n), .ref nw, .ref tr, .ref dy, .int (nI ct), .ref kp, .ref ik, .ref td, .ref ch, .int (nI sp), .int (nI ou)]))], [(tx, .inl (Y 0, 120, .inl (rowF lt)))], [(nw, .inl (Y 0, 140, .inl (rowF ρ)))], [(tr, .inl (Y 0, 140, .inl (rowF φt)))], [(dy, .inl (Y 0, 1960, .inl (rowF φ)))], [(kp, .inl (Y 0, 280, .inl (rowF kf)))], [(ik, .inl (Y 1, 2, .inl fl))], [(td, .inl (Y 0, 6, .inl (rowF tr1)))], [(ch, .inl (Y 0, 6, .inl (rowF ch1)))]] H locs := hw
  obtain ⟨hx, hb, -⟩ := id E.M
  have hRR := E.hR
  refine lv_aload_n hx hb dL_law_1470 rfl (lv_at hl 1 rfl) ?_
  refine x_cVI (As := []) (k_X5_best l G Y xo h0 h1 hh sl sv tz az lf tk bt bw ρ γ (hI)) cw_L_185 [1, 2, 11] 1 0 E.M E.hK E.hZ hw hl.1 rfl (by decide) rfl rfl rfl ⟨by omega, by omega⟩ ⟨by omega, by omega⟩ rfl rfl (Nat.le_of_ble_eq_true rfl) dL_law_1471 ?_
  rintro _ _ ⟨rfl, lf', tk', bt', bw', rfl⟩ H locs hw
  refine lv_aload_n hx hb dL_law_1474 rfl (lv_at hl 2 rfl) ?_
  refine x_cVI (As := []) (k_X6_best l G Y mo rf tx n nw tr dy ct kp ik td ch sp ou ρ tr1 ch1 (hI)) cw_L_188 [12, 14, 19, 20] 12 0 E.M E.hK E.hZ hw hl.1 rfl (by decide) rfl rfl rfl ⟨by omega, by omega⟩ ⟨by omega, by omega⟩ rfl rfl (Nat.le_of_ble_eq_true rfl) dL_law_1475 ?_
  rintro _ _ ⟨rfl, tr', ch', rfl⟩ H locs hw
  refine lv_icmp_eq (tgt := 2113) hx hb dL_law_1478 (by decide) (fun _ => ?_) (fun z => absurd rfl z)
  exact W_widen (Nat.le_add_right _ _) (Nat.le_add_right _ _) (K _ ρ _ _ _ nx ct rr _ κ0 _ κ1 _ fl n lt _ _ _ _ _ _ φ kf _ _ _ _ dia ⟨hI, hn, hlt, hr, hdi, hdv, hf0, hf1⟩ _ _ _ hw hl)
set_option maxHeartbeats 4000000 in
theorem step_leastMissed (E : LE p l R s m args c G Y A b L xs) (hi : i + 6 ≤ L) (hf : cells + 1 ≤ R.cells ∧ slots + 6 ≤ R.slots) (f : Nat → Int64) (ρ : Nat → Nat) (γ : Nat → Nat → Nat) (κ : Nat → Nat) (γ1 : Nat → Nat → Nat) (nx : Nat) (ct : Nat) (rr : Nat → Nat → Nat) (gg : Nat → Nat → Nat → Nat) (κ0 : Nat → Nat) (δ0 : Nat → Nat → Nat) (κ1 : Nat → Nat) (δ1 : Nat → Nat → Nat) (fl : Nat → Int32) (n : Nat) (lt : Nat → Nat) (lf : Nat → Nat) (tk : Nat → Int32) (bt : Nat → Int32) (bw : Int32) (rf : Nat) (φt : Nat → Nat) (φ : Nat → Nat) (kf : Nat → Nat) (tr1 : Nat → Nat) (ch1 : Nat → Nat) (sp : Nat) (ou : Nat) (dia : Nat → Nat → Nat) (hJ : LJ ρ n lt nx ct rr dia φ fl κ0 kf κ1) (hw : xW G A s.heap (jW Y xo h0 h1 hh hb2 sl a0 a1 sv tz az mo tx nw tr dy kp ik td ch ot f ρ γ κ γ1 nx ct rr gg κ0 δ0 κ1 δ1 fl n lt lf tk bt bw rf φt φ kf tr1 ch1 sp ou dia) H locs) (hl : lv_has ls 7 [(0, .ref b), (1, .ref xo), (2, .ref mo), (3, .ref ot), (4, .int (nI i))]) (K : LK p l e R s m args below meth c G Y A b i xo h0 h1 hh hb2 sl a0 a1 sv tz az mo tx nw tr dy kp ik td ch ot (cells + 1) (slots + 6) Q) : W p l e R s m args below meth c H locs cells slots Q (F0 m 1651 ls []) := by
  obtain ⟨hI, hn, hlt, hr, hdi, hdv, hf0, hf1⟩ := hJ
  have hw : xW G A s.heap [outS Y ot f, [(xo, .inr (4, [.ref h0, .ref h1, .ref hh, .ref sl, .ref sv, .ref tz, .ref az]))], aucW Y h0 ρ γ, aucW Y h1 κ γ1, hisW Y hh hb2 nx ct, ringW Y hb2 rr gg, [(sl, .inl (Y 4, 2, .inr (.inr (.inr (.inr (fun k => some (if k = 0 then a0 else a1)))))))], aucW Y a0 κ0 δ0, aucW Y a1 κ1 δ1, [(sv, .inl (Y 1, 2, .inl fl))], txtW Y tz lt n, asgW Y az lf tk bt bw, [(mo, .inr (5, [.int (nI rf), .ref tx, .int (nI n), .ref nw, .ref tr, .ref dy, .int (nI ct), .ref kp, .ref ik, .ref td, .ref ch, .int (nI sp), .int (nI ou)]))], [(tx, .inl (Y 0, 120, .inl (rowF lt)))], [(nw, .inl (Y 0, 140, .inl (rowF ρ)))], [(tr, .inl (Y 0, 140, .inl (rowF φt)))], [(dy, .inl (Y 0, 1960, .inl (rowF φ)))], [(kp, .inl (Y 0, 280, .inl (rowF kf)))], [(ik, .inl (Y 1, 2, .inl fl))], [(td, .inl (Y 0, 6, .inl (rowF tr1)))], [(ch, .inl (Y 0, 6, .inl (rowF ch1)))]] H locs := hw
  obtain ⟨hx, hb, -⟩ := id E.M
  have hRR := E.hR
  refine lv_aload_n hx hb dL_law_1651 rfl (lv_at hl 1 rfl) ?_
  refine x_cVI (As := []) (k_X5_leastMissed l G Y xo h0 h1 hh sl sv tz az lf tk bt bw ρ γ (hI)) cw_L_198 [1, 2, 11] 1 0 E.M E.hK E.hZ hw hl.1 rfl (by decide) rfl rfl rfl ⟨by omega, by omega⟩ ⟨by omega, by omega⟩ rfl rfl (Nat.le_of_ble_eq_true rfl) dL_law_1652 ?_
  rintro _ _ ⟨rfl, lf', tk', bt', bw', rfl⟩ H locs hw
  refine lv_aload_n hx hb dL_law_1655 rfl (lv_at hl 2 rfl) ?_
  refine x_cVI (As := []) (k_X6_leastMissed l G Y mo rf tx n nw tr dy ct kp ik td ch sp ou ρ tr1 ch1 (hI)) cw_L_201 [12, 14, 19, 20] 12 0 E.M E.hK E.hZ hw hl.1 rfl (by decide) rfl rfl rfl ⟨by omega, by omega⟩ ⟨by omega, by omega⟩ rfl rfl (Nat.le_of_ble_eq_true rfl) dL_law_1656 ?_
  rintro _ _ ⟨rfl, tr', ch', rfl⟩ H locs hw
  refine lv_icmp_eq (tgt := 2113) hx hb dL_law_1659 (by decide) (fun _ => ?_) (fun z => absurd rfl z)
  exact W_widen (Nat.le_add_right _ _) (Nat.le_add_right _ _) (K _ ρ _ _ _ nx ct rr _ κ0 _ κ1 _ fl n lt _ _ _ _ _ _ φ kf _ _ _ _ dia ⟨hI, hn, hlt, hr, hdi, hdv, hf0, hf1⟩ _ _ _ hw hl)
set_option maxHeartbeats 4000000 in
theorem step_roundsLeft (E : LE p l R s m args c G Y A b L xs) (hi : i + 6 ≤ L) (hf : cells + 1 ≤ R.cells ∧ slots + 6 ≤ R.slots) (f : Nat → Int64) (ρ : Nat → Nat) (γ : Nat → Nat → Nat) (κ : Nat → Nat) (γ1 : Nat → Nat → Nat) (nx : Nat) (ct : Nat) (rr : Nat → Nat → Nat) (gg : Nat → Nat → Nat → Nat) (κ0 : Nat → Nat) (δ0 : Nat → Nat → Nat) (κ1 : Nat → Nat) (δ1 : Nat → Nat → Nat) (fl : Nat → Int32) (n : Nat) (lt : Nat → Nat) (lf : Nat → Nat) (tk : Nat → Int32) (bt : Nat → Int32) (bw : Int32) (rf : Nat) (φt : Nat → Nat) (φ : Nat → Nat) (kf : Nat → Nat) (tr1 : Nat → Nat) (ch1 : Nat → Nat) (sp : Nat) (ou : Nat) (dia : Nat → Nat → Nat) (hJ : LJ ρ n lt nx ct rr dia φ fl κ0 kf κ1) (hw : xW G A s.heap (jW Y xo h0 h1 hh hb2 sl a0 a1 sv tz az mo tx nw tr dy kp ik td ch ot f ρ γ κ γ1 nx ct rr gg κ0 δ0 κ1 δ1 fl n lt lf tk bt bw rf φt φ kf tr1 ch1 sp ou dia) H locs) (hl : lv_has ls 7 [(0, .ref b), (1, .ref xo), (2, .ref mo), (3, .ref ot), (4, .int (nI i))]) (K : LK p l e R s m args below meth c G Y A b i xo h0 h1 hh hb2 sl a0 a1 sv tz az mo tx nw tr dy kp ik td ch ot (cells + 1) (slots + 6) Q) : W p l e R s m args below meth c H locs cells slots Q (F0 m 1732 ls []) := by
  obtain ⟨hI, hn, hlt, hr, hdi, hdv, hf0, hf1⟩ := hJ
  have hw : xW G A s.heap [outS Y ot f, [(xo, .inr (4, [.ref h0, .ref h1, .ref hh, .ref sl, .ref sv, .ref tz, .ref az]))], aucW Y h0 ρ γ, aucW Y h1 κ γ1, hisW Y hh hb2 nx ct, ringW Y hb2 rr gg, [(sl, .inl (Y 4, 2, .inr (.inr (.inr (.inr (fun k => some (if k = 0 then a0 else a1)))))))], aucW Y a0 κ0 δ0, aucW Y a1 κ1 δ1, [(sv, .inl (Y 1, 2, .inl fl))], txtW Y tz lt n, asgW Y az lf tk bt bw, [(mo, .inr (5, [.int (nI rf), .ref tx, .int (nI n), .ref nw, .ref tr, .ref dy, .int (nI ct), .ref kp, .ref ik, .ref td, .ref ch, .int (nI sp), .int (nI ou)]))], [(tx, .inl (Y 0, 120, .inl (rowF lt)))], [(nw, .inl (Y 0, 140, .inl (rowF ρ)))], [(tr, .inl (Y 0, 140, .inl (rowF φt)))], [(dy, .inl (Y 0, 1960, .inl (rowF φ)))], [(kp, .inl (Y 0, 280, .inl (rowF kf)))], [(ik, .inl (Y 1, 2, .inl fl))], [(td, .inl (Y 0, 6, .inl (rowF tr1)))], [(ch, .inl (Y 0, 6, .inl (rowF ch1)))]] H locs := hw
  obtain ⟨hx, hb, -⟩ := id E.M
  have hRR := E.hR
  refine lv_aload_n hx hb dL_law_1732 rfl (lv_at hl 1 rfl) ?_
  refine x_cVI (As := []) (k_X5_roundsLeft l G Y xo h0 h1 hh sl sv tz az ρ γ κ γ1 (hI)) cw_L_205 [1, 2, 3] 1 0 E.M E.hK E.hZ hw hl.1 rfl (by decide) rfl rfl rfl ⟨by omega, by omega⟩ ⟨by omega, by omega⟩ rfl rfl (Nat.le_of_ble_eq_true rfl) dL_law_1733 ?_
  rintro _ _ ⟨rfl, γ', rfl⟩ H locs hw
  refine lv_aload_n hx hb dL_law_1736 rfl (lv_at hl 2 rfl) ?_
  refine x_cVI (As := []) (k_X6_roundsLeft l G Y mo rf tx n nw tr dy ct kp ik td ch sp ou ρ φt (hI)) cw_L_208 [12, 14, 15] 12 0 E.M E.hK E.hZ hw hl.1 rfl (by decide) rfl rfl rfl ⟨by omega, by omega⟩ ⟨by omega, by omega⟩ rfl rfl (Nat.le_of_ble_eq_true rfl) dL_law_1737 ?_
  rintro _ _ ⟨rfl, rfl⟩ H locs hw
  refine lv_icmp_eq (tgt := 2113) hx hb dL_law_1740 (by decide) (fun _ => ?_) (fun z => absurd rfl z)
  exact W_widen (Nat.le_add_right _ _) (Nat.le_add_right _ _) (K _ ρ _ _ _ nx ct rr _ κ0 _ κ1 _ fl n lt _ _ _ _ _ _ φ kf _ _ _ _ dia ⟨hI, hn, hlt, hr, hdi, hdv, hf0, hf1⟩ _ _ _ hw hl)
end LAWS2
