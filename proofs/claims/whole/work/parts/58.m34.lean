theorem toN {x : Int32} (h : 0 ≤ x.toInt) : ∃ j : Nat, x = nI j ∧ j < 2 ^ 31 ∧ x.toInt = (j : Int) := by
  have h2 := Int32.toInt_lt x
  refine ⟨x.toInt.toNat, Int32.toInt_inj.mp ?_, by omega, by omega⟩
  rw [nI_toInt (by omega)]
  omega
theorem rngZ (x : Int32) (lo hi : Int) (h : 0 ≤ lo) : inZ x.toInt lo hi = false ∨ ∃ j : Nat, x = nI j ∧ j < 2 ^ 31 ∧ lo ≤ (j : Int) ∧ (j : Int) ≤ hi := by
  by_cases c : lo ≤ x.toInt ∧ x.toInt ≤ hi
  · obtain ⟨j, h1, h2, h3⟩ := toN (x := x) (by omega)
    exact Or.inr ⟨j, h1, h2, by omega, by omega⟩
  · exact Or.inl (decide_eq_false c)
theorem ngT {z : Bool} (h : z = false) : (!z) = true := by rw [h]; rfl
section LAWS
variable {p : Program} {l : Launch} {e : Env} {R : Room} {s : State} {m : MethodId} {args : Array Value} {below : List Frame} {meth : Method} {c : Code} {H : Heap} {locs : List Loc} {cells slots : Nat} {Q : State → Prop}
variable {ls : Array Slot} {G : va_G} {Y : Nat → Nat} {A : Nat → Prop} {b L i xo h0 h1 hh hb2 sl a0 a1 sv tz az mo tx nw tr dy kp ik td ch ot : Nat} {xs : Nat → Int32}
set_option maxHeartbeats 4000000 in
theorem step_about (E : LE p l R s m args c G Y A b L xs) (hi : i + 6 ≤ L) (hf : cells + 1 ≤ R.cells ∧ slots + 6 ≤ R.slots) (f : Nat → Int64) (ρ : Nat → Nat) (γ : Nat → Nat → Nat) (κ : Nat → Nat) (γ1 : Nat → Nat → Nat) (nx : Nat) (ct : Nat) (rr : Nat → Nat → Nat) (gg : Nat → Nat → Nat → Nat) (κ0 : Nat → Nat) (δ0 : Nat → Nat → Nat) (κ1 : Nat → Nat) (δ1 : Nat → Nat → Nat) (fl : Nat → Int32) (n : Nat) (lt : Nat → Nat) (lf : Nat → Nat) (tk : Nat → Int32) (bt : Nat → Int32) (bw : Int32) (rf : Nat) (φt : Nat → Nat) (φ : Nat → Nat) (kf : Nat → Nat) (tr1 : Nat → Nat) (ch1 : Nat → Nat) (sp : Nat) (ou : Nat) (dia : Nat → Nat → Nat) (hJ : LJ ρ n lt nx ct rr dia φ fl κ0 kf κ1) (hw : xW G A s.heap (jW Y xo h0 h1 hh hb2 sl a0 a1 sv tz az mo tx nw tr dy kp ik td ch ot f ρ γ κ γ1 nx ct rr gg κ0 δ0 κ1 δ1 fl n lt lf tk bt bw rf φt φ kf tr1 ch1 sp ou dia) H locs) (hl : lv_has ls 7 [(0, .ref b), (1, .ref xo), (2, .ref mo), (3, .ref ot), (4, .int (nI i))]) (K : LK p l e R s m args below meth c G Y A b i xo h0 h1 hh hb2 sl a0 a1 sv tz az mo tx nw tr dy kp ik td ch ot (cells + 1) (slots + 6) Q) : W p l e R s m args below meth c H locs cells slots Q (F0 m 314 ls []) := by
  obtain ⟨hI, hn, hlt, hr, hdi, hdv, hf0, hf1⟩ := hJ
  have hw : xW G A s.heap [outS Y ot f, [(xo, .inr (4, [.ref h0, .ref h1, .ref hh, .ref sl, .ref sv, .ref tz, .ref az]))], aucW Y h0 ρ γ, aucW Y h1 κ γ1, hisW Y hh hb2 nx ct, ringW Y hb2 rr gg, [(sl, .inl (Y 4, 2, .inr (.inr (.inr (.inr (fun k => some (if k = 0 then a0 else a1)))))))], aucW Y a0 κ0 δ0, aucW Y a1 κ1 δ1, [(sv, .inl (Y 1, 2, .inl fl))], txtW Y tz lt n, asgW Y az lf tk bt bw, [(mo, .inr (5, [.int (nI rf), .ref tx, .int (nI n), .ref nw, .ref tr, .ref dy, .int (nI ct), .ref kp, .ref ik, .ref td, .ref ch, .int (nI sp), .int (nI ou)]))], [(tx, .inl (Y 0, 120, .inl (rowF lt)))], [(nw, .inl (Y 0, 140, .inl (rowF ρ)))], [(tr, .inl (Y 0, 140, .inl (rowF φt)))], [(dy, .inl (Y 0, 1960, .inl (rowF φ)))], [(kp, .inl (Y 0, 280, .inl (rowF kf)))], [(ik, .inl (Y 1, 2, .inl fl))], [(td, .inl (Y 0, 6, .inl (rowF tr1)))], [(ch, .inl (Y 0, 6, .inl (rowF ch1)))]] H locs := hw
  obtain ⟨c1, e1⟩ : ∃ z, xs (i + 1) = z := ⟨_, rfl⟩
  rcases rngZ c1 0 (5) (by decide) with hk1 | ⟨j1, rfl, g1, l1, u1⟩
  · refine case_about E e1 hi (lt_about_1 l G Y xo ot _ f _ _ (t_X5_about l E.fl G Y xo h0 h1 hh sl sv tz az (c1) ρ γ (ngT hk1)) rfl) (f_X6_about l G Y mo rf tx n nw tr dy ct kp ik td ch sp ou ρ (c1) (hk1)) (by decide) (is := [0, 1, 2]) (isM := [12, 14]) rfl (by decide) (by decide) hf hw hl ?_
    rintro _ _ ⟨rfl, rfl⟩
    refine ⟨rfl, ⟨_, rfl⟩, ?_⟩
    rintro _ _ ⟨rfl, rfl⟩
    exact ⟨⟨_, 1, _, _, _, _, _, _, _, _, _, _, _, _, rfl, rfl, rfl, by decide, fun z => absurd z (by decide)⟩, fun H locs ls hw hl => K _ ρ _ _ _ nx ct rr _ κ0 _ κ1 _ fl n lt _ _ _ _ _ _ φ kf _ _ _ _ dia ⟨hI, hn, hlt, hr, hdi, hdv, hf0, hf1⟩ _ _ _ hw hl⟩
  · refine case_about E e1 hi (lk_about l G Y xo ot _ f _ _ (k_X5_about l G Y xo h0 h1 hh sl sv tz az (j1) ρ γ (hI) (by omega)) rfl) (k_X6_about l G Y mo rf tx n nw tr dy ct kp ik td ch sp ou ρ (j1) (hI) (by omega)) (by decide) (is := [0, 1, 2]) (isM := [12, 14]) rfl (by decide) (by decide) hf hw hl ?_
    rintro _ _ ⟨rfl, _, _, ⟨rfl, rfl⟩, rfl⟩
    refine ⟨rfl, ⟨_, rfl⟩, ?_⟩
    rintro _ _ ⟨rfl, rfl⟩
    exact ⟨⟨_, 0, _, _, _, _, _, _, _, _, _, _, _, _, rfl, rfl, rfl, by decide, fun _ => rfl⟩, fun H locs ls hw hl => K _ ρ _ _ _ nx ct rr _ κ0 _ κ1 _ fl n lt _ _ _ _ _ _ φ kf _ _ _ _ dia ⟨hI, hn, hlt, hr, hdi, hdv, hf0, hf1⟩ _ _ _ hw hl⟩
set_option maxHeartbeats 4000000 in
theorem step_kind (E : LE p l R s m args c G Y A b L xs) (hi : i + 6 ≤ L) (hf : cells + 1 ≤ R.cells ∧ slots + 6 ≤ R.slots) (f : Nat → Int64) (ρ : Nat → Nat) (γ : Nat → Nat → Nat) (κ : Nat → Nat) (γ1 : Nat → Nat → Nat) (nx : Nat) (ct : Nat) (rr : Nat → Nat → Nat) (gg : Nat → Nat → Nat → Nat) (κ0 : Nat → Nat) (δ0 : Nat → Nat → Nat) (κ1 : Nat → Nat) (δ1 : Nat → Nat → Nat) (fl : Nat → Int32) (n : Nat) (lt : Nat → Nat) (lf : Nat → Nat) (tk : Nat → Int32) (bt : Nat → Int32) (bw : Int32) (rf : Nat) (φt : Nat → Nat) (φ : Nat → Nat) (kf : Nat → Nat) (tr1 : Nat → Nat) (ch1 : Nat → Nat) (sp : Nat) (ou : Nat) (dia : Nat → Nat → Nat) (hJ : LJ ρ n lt nx ct rr dia φ fl κ0 kf κ1) (hw : xW G A s.heap (jW Y xo h0 h1 hh hb2 sl a0 a1 sv tz az mo tx nw tr dy kp ik td ch ot f ρ γ κ γ1 nx ct rr gg κ0 δ0 κ1 δ1 fl n lt lf tk bt bw rf φt φ kf tr1 ch1 sp ou dia) H locs) (hl : lv_has ls 7 [(0, .ref b), (1, .ref xo), (2, .ref mo), (3, .ref ot), (4, .int (nI i))]) (K : LK p l e R s m args below meth c G Y A b i xo h0 h1 hh hb2 sl a0 a1 sv tz az mo tx nw tr dy kp ik td ch ot (cells + 1) (slots + 6) Q) : W p l e R s m args below meth c H locs cells slots Q (F0 m 370 ls []) := by
  obtain ⟨hI, hn, hlt, hr, hdi, hdv, hf0, hf1⟩ := hJ
  have hw : xW G A s.heap [outS Y ot f, [(xo, .inr (4, [.ref h0, .ref h1, .ref hh, .ref sl, .ref sv, .ref tz, .ref az]))], aucW Y h0 ρ γ, aucW Y h1 κ γ1, hisW Y hh hb2 nx ct, ringW Y hb2 rr gg, [(sl, .inl (Y 4, 2, .inr (.inr (.inr (.inr (fun k => some (if k = 0 then a0 else a1)))))))], aucW Y a0 κ0 δ0, aucW Y a1 κ1 δ1, [(sv, .inl (Y 1, 2, .inl fl))], txtW Y tz lt n, asgW Y az lf tk bt bw, [(mo, .inr (5, [.int (nI rf), .ref tx, .int (nI n), .ref nw, .ref tr, .ref dy, .int (nI ct), .ref kp, .ref ik, .ref td, .ref ch, .int (nI sp), .int (nI ou)]))], [(tx, .inl (Y 0, 120, .inl (rowF lt)))], [(nw, .inl (Y 0, 140, .inl (rowF ρ)))], [(tr, .inl (Y 0, 140, .inl (rowF φt)))], [(dy, .inl (Y 0, 1960, .inl (rowF φ)))], [(kp, .inl (Y 0, 280, .inl (rowF kf)))], [(ik, .inl (Y 1, 2, .inl fl))], [(td, .inl (Y 0, 6, .inl (rowF tr1)))], [(ch, .inl (Y 0, 6, .inl (rowF ch1)))]] H locs := hw
  obtain ⟨c1, e1⟩ : ∃ z, xs (i + 1) = z := ⟨_, rfl⟩
  obtain ⟨c2, e2⟩ : ∃ z, xs (i + 2) = z := ⟨_, rfl⟩
  rcases rngZ c1 0 (2) (by decide) with hk1 | ⟨j1, rfl, g1, l1, u1⟩
  · refine case_kind E e1 e2 hi (lt_kind_1 l G Y xo ot _ _ f _ _ (t_X5_kind_1 l E.fl G Y xo h0 h1 hh sl sv tz az (c1) (c2) ρ γ (ngT hk1)) rfl) (f_X6_kind_1 l G Y mo rf tx n nw tr dy ct kp ik td ch sp ou ρ (c1) (c2) (hk1)) (by decide) (is := [0, 1, 2]) (isM := [12, 14]) rfl (by decide) (by decide) hf hw hl ?_
    rintro _ _ ⟨rfl, rfl⟩
    refine ⟨rfl, ⟨_, rfl⟩, ?_⟩
    rintro _ _ ⟨rfl, rfl⟩
    exact ⟨⟨_, 1, _, _, _, _, _, _, _, _, _, _, _, _, rfl, rfl, rfl, by decide, fun z => absurd z (by decide)⟩, fun H locs ls hw hl => K _ ρ _ _ _ nx ct rr _ κ0 _ κ1 _ fl n lt _ _ _ _ _ _ φ kf _ _ _ _ dia ⟨hI, hn, hlt, hr, hdi, hdv, hf0, hf1⟩ _ _ _ hw hl⟩
  · rcases rngZ c2 0 (3) (by decide) with hk2 | ⟨j2, rfl, g2, l2, u2⟩
    · refine case_kind E e1 e2 hi (lt_kind_2 l G Y xo ot _ _ f _ _ (t_X5_kind_2 l E.fl G Y xo h0 h1 hh sl sv tz az (j1) (c2) ρ γ (by omega) (ngT hk2)) rfl) (f_X6_kind_2 l G Y mo rf tx n nw tr dy ct kp ik td ch sp ou ρ (j1) (c2) (by omega) (hk2)) (by decide) (is := [0, 1, 2]) (isM := [12, 14]) rfl (by decide) (by decide) hf hw hl ?_
      rintro _ _ ⟨rfl, rfl⟩
      refine ⟨rfl, ⟨_, rfl⟩, ?_⟩
      rintro _ _ ⟨rfl, rfl⟩
      exact ⟨⟨_, 2, _, _, _, _, _, _, _, _, _, _, _, _, rfl, rfl, rfl, by decide, fun z => absurd z (by decide)⟩, fun H locs ls hw hl => K _ ρ _ _ _ nx ct rr _ κ0 _ κ1 _ fl n lt _ _ _ _ _ _ φ kf _ _ _ _ dia ⟨hI, hn, hlt, hr, hdi, hdv, hf0, hf1⟩ _ _ _ hw hl⟩
    · refine case_kind E e1 e2 hi (lk_kind l G Y xo ot _ _ f _ _ (k_X5_kind l G Y xo h0 h1 hh sl sv tz az (j1) (j2) ρ γ (hI) (by omega) (by omega)) rfl) (k_X6_kind l G Y mo rf tx n nw tr dy ct kp ik td ch sp ou ρ (j1) (j2) (hI) (by omega) (by omega)) (by decide) (is := [0, 1, 2]) (isM := [12, 14]) rfl (by decide) (by decide) hf hw hl ?_
      rintro _ _ ⟨rfl, _, _, ⟨rfl, rfl⟩, rfl⟩
      refine ⟨rfl, ⟨_, rfl⟩, ?_⟩
      rintro _ _ ⟨rfl, rfl⟩
      exact ⟨⟨_, 0, _, _, _, _, _, _, _, _, _, _, _, _, rfl, rfl, rfl, by decide, fun _ => rfl⟩, fun H locs ls hw hl => K _ ρ _ _ _ nx ct rr _ κ0 _ κ1 _ fl n lt _ _ _ _ _ _ φ kf _ _ _ _ dia ⟨hI, hn, hlt, hr, hdi, hdv, hf0, hf1⟩ _ _ _ hw hl⟩
set_option maxHeartbeats 4000000 in
theorem step_append (E : LE p l R s m args c G Y A b L xs) (hi : i + 6 ≤ L) (hf : cells + 1 ≤ R.cells ∧ slots + 6 ≤ R.slots) (f : Nat → Int64) (ρ : Nat → Nat) (γ : Nat → Nat → Nat) (κ : Nat → Nat) (γ1 : Nat → Nat → Nat) (nx : Nat) (ct : Nat) (rr : Nat → Nat → Nat) (gg : Nat → Nat → Nat → Nat) (κ0 : Nat → Nat) (δ0 : Nat → Nat → Nat) (κ1 : Nat → Nat) (δ1 : Nat → Nat → Nat) (fl : Nat → Int32) (n : Nat) (lt : Nat → Nat) (lf : Nat → Nat) (tk : Nat → Int32) (bt : Nat → Int32) (bw : Int32) (rf : Nat) (φt : Nat → Nat) (φ : Nat → Nat) (kf : Nat → Nat) (tr1 : Nat → Nat) (ch1 : Nat → Nat) (sp : Nat) (ou : Nat) (dia : Nat → Nat → Nat) (hJ : LJ ρ n lt nx ct rr dia φ fl κ0 kf κ1) (hw : xW G A s.heap (jW Y xo h0 h1 hh hb2 sl a0 a1 sv tz az mo tx nw tr dy kp ik td ch ot f ρ γ κ γ1 nx ct rr gg κ0 δ0 κ1 δ1 fl n lt lf tk bt bw rf φt φ kf tr1 ch1 sp ou dia) H locs) (hl : lv_has ls 7 [(0, .ref b), (1, .ref xo), (2, .ref mo), (3, .ref ot), (4, .int (nI i))]) (K : LK p l e R s m args below meth c G Y A b i xo h0 h1 hh hb2 sl a0 a1 sv tz az mo tx nw tr dy kp ik td ch ot (cells + 1) (slots + 6) Q) : W p l e R s m args below meth c H locs cells slots Q (F0 m 188 ls []) := by
  obtain ⟨hI, hn, hlt, hr, hdi, hdv, hf0, hf1⟩ := hJ
  have hw : xW G A s.heap [outS Y ot f, [(xo, .inr (4, [.ref h0, .ref h1, .ref hh, .ref sl, .ref sv, .ref tz, .ref az]))], aucW Y h0 ρ γ, aucW Y h1 κ γ1, hisW Y hh hb2 nx ct, ringW Y hb2 rr gg, [(sl, .inl (Y 4, 2, .inr (.inr (.inr (.inr (fun k => some (if k = 0 then a0 else a1)))))))], aucW Y a0 κ0 δ0, aucW Y a1 κ1 δ1, [(sv, .inl (Y 1, 2, .inl fl))], txtW Y tz lt n, asgW Y az lf tk bt bw, [(mo, .inr (5, [.int (nI rf), .ref tx, .int (nI n), .ref nw, .ref tr, .ref dy, .int (nI ct), .ref kp, .ref ik, .ref td, .ref ch, .int (nI sp), .int (nI ou)]))], [(tx, .inl (Y 0, 120, .inl (rowF lt)))], [(nw, .inl (Y 0, 140, .inl (rowF ρ)))], [(tr, .inl (Y 0, 140, .inl (rowF φt)))], [(dy, .inl (Y 0, 1960, .inl (rowF φ)))], [(kp, .inl (Y 0, 280, .inl (rowF kf)))], [(ik, .inl (Y 1, 2, .inl fl))], [(td, .inl (Y 0, 6, .inl (rowF tr1)))], [(ch, .inl (Y 0, 6, .inl (rowF ch1)))]] H locs := hw
  obtain ⟨c1, e1⟩ : ∃ z, xs (i + 1) = z := ⟨_, rfl⟩
  rcases rngZ c1 0 (255) (by decide) with hk1 | ⟨j1, rfl, g1, l1, u1⟩
  · refine case_append E e1 hi (lt_append_1 l G Y xo ot _ f _ _ (t_X5_append_1 l E.fl G Y xo h0 h1 hh sl sv tz az n lt (c1) (hn) (hlt) (ngT hk1)) rfl) (f_X6_append_1 l G Y mo rf tx n nw tr dy ct kp ik td ch sp ou lt (c1) (hn) (hlt) (hk1)) (by decide) (is := [0, 1, 10]) (isM := [12, 13]) rfl (by decide) (by decide) hf hw hl ?_
    rintro _ _ ⟨rfl, rfl⟩
    refine ⟨rfl, ⟨_, rfl⟩, ?_⟩
    rintro _ _ ⟨rfl, rfl⟩
    exact ⟨⟨_, 1, _, _, _, _, _, _, _, _, _, _, _, _, rfl, rfl, rfl, by decide, fun z => absurd z (by decide)⟩, fun H locs ls hw hl => K _ ρ _ _ _ nx ct rr _ κ0 _ κ1 _ fl n lt _ _ _ _ _ _ φ kf _ _ _ _ dia ⟨hI, hn, hlt, hr, hdi, hdv, hf0, hf1⟩ _ _ _ hw hl⟩
  · rcases Nat.lt_or_ge n 120 with hn2 | hn2
    · refine case_append E e1 hi (lk_append l G Y xo ot _ f _ _ (k_X5_append l G Y xo h0 h1 hh sl sv tz az n lt (j1) (hn) (hlt) (by omega) (hn2)) rfl) (k_X6_append l G Y mo rf tx n nw tr dy ct kp ik td ch sp ou lt (j1) (hn) (hlt) (by omega) (hn2)) (by decide) (is := [0, 1, 10]) (isM := [12, 13]) rfl (by decide) (by decide) hf hw hl ?_
      rintro _ _ ⟨rfl, _, _, ⟨rfl, rfl⟩, rfl⟩
      refine ⟨rfl, ⟨_, rfl⟩, ?_⟩
      rintro _ _ ⟨rfl, rfl⟩
      exact ⟨⟨_, 0, _, _, _, _, _, _, _, _, _, _, _, _, rfl, rfl, rfl, by decide, fun _ => rfl⟩, fun H locs ls hw hl => K _ ρ _ _ _ nx ct rr _ κ0 _ κ1 _ fl (1 + n) (setN lt n j1) _ _ _ _ _ _ φ kf _ _ _ _ dia ⟨hI, by omega, fun q hq => by unfold setN; split; (first | omega | exact hlt q hq); exact hlt q hq, hr, hdi, hdv, hf0, hf1⟩ _ _ _ hw hl⟩
    · refine case_append E e1 hi (lt_append_2 l G Y xo ot _ f _ _ (t_X5_append_2 l E.fl G Y xo h0 h1 hh sl sv tz az n lt (j1) (hn) (hlt) (by omega) (hn2)) rfl) (f_X6_append_2 l G Y mo rf tx n nw tr dy ct kp ik td ch sp ou lt (j1) (hn) (hlt) (by omega) (hn2)) (by decide) (is := [0, 1, 10]) (isM := [12, 13]) rfl (by decide) (by decide) hf hw hl ?_
      rintro _ _ ⟨rfl, rfl⟩
      refine ⟨rfl, ⟨_, rfl⟩, ?_⟩
      rintro _ _ ⟨rfl, rfl⟩
      exact ⟨⟨_, 2, _, _, _, _, _, _, _, _, _, _, _, _, rfl, rfl, rfl, by decide, fun z => absurd z (by decide)⟩, fun H locs ls hw hl => K _ ρ _ _ _ nx ct rr _ κ0 _ κ1 _ fl n lt _ _ _ _ _ _ φ kf _ _ _ _ dia ⟨hI, hn, hlt, hr, hdi, hdv, hf0, hf1⟩ _ _ _ hw hl⟩
set_option maxHeartbeats 4000000 in
theorem step_load (E : LE p l R s m args c G Y A b L xs) (hi : i + 6 ≤ L) (hf : cells + 1 ≤ R.cells ∧ slots + 6 ≤ R.slots) (f : Nat → Int64) (ρ : Nat → Nat) (γ : Nat → Nat → Nat) (κ : Nat → Nat) (γ1 : Nat → Nat → Nat) (nx : Nat) (ct : Nat) (rr : Nat → Nat → Nat) (gg : Nat → Nat → Nat → Nat) (κ0 : Nat → Nat) (δ0 : Nat → Nat → Nat) (κ1 : Nat → Nat) (δ1 : Nat → Nat → Nat) (fl : Nat → Int32) (n : Nat) (lt : Nat → Nat) (lf : Nat → Nat) (tk : Nat → Int32) (bt : Nat → Int32) (bw : Int32) (rf : Nat) (φt : Nat → Nat) (φ : Nat → Nat) (kf : Nat → Nat) (tr1 : Nat → Nat) (ch1 : Nat → Nat) (sp : Nat) (ou : Nat) (dia : Nat → Nat → Nat) (hJ : LJ ρ n lt nx ct rr dia φ fl κ0 kf κ1) (hw : xW G A s.heap (jW Y xo h0 h1 hh hb2 sl a0 a1 sv tz az mo tx nw tr dy kp ik td ch ot f ρ γ κ γ1 nx ct rr gg κ0 δ0 κ1 δ1 fl n lt lf tk bt bw rf φt φ kf tr1 ch1 sp ou dia) H locs) (hl : lv_has ls 7 [(0, .ref b), (1, .ref xo), (2, .ref mo), (3, .ref ot), (4, .int (nI i))]) (K : LK p l e R s m args below meth c G Y A b i xo h0 h1 hh hb2 sl a0 a1 sv tz az mo tx nw tr dy kp ik td ch ot (cells + 1) (slots + 6) Q) : W p l e R s m args below meth c H locs cells slots Q (F0 m 270 ls []) := by
  obtain ⟨hI, hn, hlt, hr, hdi, hdv, hf0, hf1⟩ := hJ
  have hw : xW G A s.heap [outS Y ot f, [(xo, .inr (4, [.ref h0, .ref h1, .ref hh, .ref sl, .ref sv, .ref tz, .ref az]))], aucW Y h0 ρ γ, aucW Y h1 κ γ1, hisW Y hh hb2 nx ct, ringW Y hb2 rr gg, [(sl, .inl (Y 4, 2, .inr (.inr (.inr (.inr (fun k => some (if k = 0 then a0 else a1)))))))], aucW Y a0 κ0 δ0, aucW Y a1 κ1 δ1, [(sv, .inl (Y 1, 2, .inl fl))], txtW Y tz lt n, asgW Y az lf tk bt bw, [(mo, .inr (5, [.int (nI rf), .ref tx, .int (nI n), .ref nw, .ref tr, .ref dy, .int (nI ct), .ref kp, .ref ik, .ref td, .ref ch, .int (nI sp), .int (nI ou)]))], [(tx, .inl (Y 0, 120, .inl (rowF lt)))], [(nw, .inl (Y 0, 140, .inl (rowF ρ)))], [(tr, .inl (Y 0, 140, .inl (rowF φt)))], [(dy, .inl (Y 0, 1960, .inl (rowF φ)))], [(kp, .inl (Y 0, 280, .inl (rowF kf)))], [(ik, .inl (Y 1, 2, .inl fl))], [(td, .inl (Y 0, 6, .inl (rowF tr1)))], [(ch, .inl (Y 0, 6, .inl (rowF ch1)))]] H locs := hw
  by_cases he : errP lt n = 0
  · refine case_load E  hi (lk_load l G Y xo ot  f _ _ (k_X5_load l G Y xo h0 h1 hh sl sv tz az n hb2 nx ct lt fl ρ γ (hn) (hlt) (he)) rfl) (k_X6_load l G Y mo rf tx n nw tr dy ct kp ik td ch sp ou lt ρ φt fl (hn) (hlt) (he)) (by decide) (is := [0, 1, 10, 2, 4, 9]) (isM := [12, 13, 14, 15, 18]) rfl (by decide) (by decide) hf hw hl ?_
    rintro _ _ ⟨rfl, _, _, ⟨rfl, γ', rfl⟩, rfl⟩
    refine ⟨rfl, ⟨_, rfl⟩, ?_⟩
    rintro _ _ ⟨rfl, sp', rfl⟩
    exact ⟨⟨_, 0, _, _, _, _, _, _, _, _, _, _, _, _, rfl, rfl, rfl, by decide, fun _ => rfl⟩, fun H locs ls hw hl => K _ ((tR lt n 1 row0 0).1) _ _ _ nx 0 rr _ κ0 _ κ1 _ (upd (upd fl 0 (nI 0)) 1 (nI 0)) n lt _ _ _ _ _ _ φ kf _ _ _ _ dia ⟨Inv_txR Inv_0, hn, hlt, ⟨hr.1, Nat.zero_le _, fun k hk => absurd hk (Nat.not_lt_zero _)⟩, fun k hk => absurd hk (Nat.not_lt_zero _), fun k hk => absurd hk (Nat.not_lt_zero _), Or.inl rfl, Or.inl rfl⟩ _ _ _ hw hl⟩
  · refine case_load E  hi (lt_load_1 l G Y xo ot  f _ _ (t_X5_load l E.fl G Y xo h0 h1 hh sl sv tz az n hb2 nx ct lt fl ρ γ (hn) (hlt) (he)) rfl) (f_X6_load l G Y mo rf tx n nw tr dy ct kp ik td ch sp ou lt ρ φt fl (hn) (hlt) (he)) (by decide) (is := [0, 1, 10, 2, 4, 9]) (isM := [12, 13, 14, 15, 18]) rfl (by decide) (by decide) hf hw hl ?_
    rintro _ _ ⟨rfl, rfl⟩
    refine ⟨rfl, ⟨_, rfl⟩, ?_⟩
    rintro _ _ ⟨rfl, sp', ou', σ, rfl⟩
    exact ⟨⟨_, 1, _, _, _, _, _, _, _, _, _, _, _, _, rfl, rfl, rfl, by decide, fun z => absurd z (by decide)⟩, fun H locs ls hw hl => K _ ρ _ _ _ nx ct rr _ κ0 _ κ1 _ fl n lt _ _ _ _ _ _ φ kf _ _ _ _ dia ⟨hI, hn, hlt, hr, hdi, hdv, hf0, hf1⟩ _ _ _ hw hl⟩
set_option maxHeartbeats 4000000 in
theorem step_bidder (E : LE p l R s m args c G Y A b L xs) (hi : i + 6 ≤ L) (hf : cells + 1 ≤ R.cells ∧ slots + 6 ≤ R.slots) (f : Nat → Int64) (ρ : Nat → Nat) (γ : Nat → Nat → Nat) (κ : Nat → Nat) (γ1 : Nat → Nat → Nat) (nx : Nat) (ct : Nat) (rr : Nat → Nat → Nat) (gg : Nat → Nat → Nat → Nat) (κ0 : Nat → Nat) (δ0 : Nat → Nat → Nat) (κ1 : Nat → Nat) (δ1 : Nat → Nat → Nat) (fl : Nat → Int32) (n : Nat) (lt : Nat → Nat) (lf : Nat → Nat) (tk : Nat → Int32) (bt : Nat → Int32) (bw : Int32) (rf : Nat) (φt : Nat → Nat) (φ : Nat → Nat) (kf : Nat → Nat) (tr1 : Nat → Nat) (ch1 : Nat → Nat) (sp : Nat) (ou : Nat) (dia : Nat → Nat → Nat) (hJ : LJ ρ n lt nx ct rr dia φ fl κ0 kf κ1) (hw : xW G A s.heap (jW Y xo h0 h1 hh hb2 sl a0 a1 sv tz az mo tx nw tr dy kp ik td ch ot f ρ γ κ γ1 nx ct rr gg κ0 δ0 κ1 δ1 fl n lt lf tk bt bw rf φt φ kf tr1 ch1 sp ou dia) H locs) (hl : lv_has ls 7 [(0, .ref b), (1, .ref xo), (2, .ref mo), (3, .ref ot), (4, .int (nI i))]) (K : LK p l e R s m args below meth c G Y A b i xo h0 h1 hh hb2 sl a0 a1 sv tz az mo tx nw tr dy kp ik td ch ot (cells + 1) (slots + 6) Q) : W p l e R s m args below meth c H locs cells slots Q (F0 m 438 ls []) := by
  obtain ⟨hI, hn, hlt, hr, hdi, hdv, hf0, hf1⟩ := hJ
  have hw : xW G A s.heap [outS Y ot f, [(xo, .inr (4, [.ref h0, .ref h1, .ref hh, .ref sl, .ref sv, .ref tz, .ref az]))], aucW Y h0 ρ γ, aucW Y h1 κ γ1, hisW Y hh hb2 nx ct, ringW Y hb2 rr gg, [(sl, .inl (Y 4, 2, .inr (.inr (.inr (.inr (fun k => some (if k = 0 then a0 else a1)))))))], aucW Y a0 κ0 δ0, aucW Y a1 κ1 δ1, [(sv, .inl (Y 1, 2, .inl fl))], txtW Y tz lt n, asgW Y az lf tk bt bw, [(mo, .inr (5, [.int (nI rf), .ref tx, .int (nI n), .ref nw, .ref tr, .ref dy, .int (nI ct), .ref kp, .ref ik, .ref td, .ref ch, .int (nI sp), .int (nI ou)]))], [(tx, .inl (Y 0, 120, .inl (rowF lt)))], [(nw, .inl (Y 0, 140, .inl (rowF ρ)))], [(tr, .inl (Y 0, 140, .inl (rowF φt)))], [(dy, .inl (Y 0, 1960, .inl (rowF φ)))], [(kp, .inl (Y 0, 280, .inl (rowF kf)))], [(ik, .inl (Y 1, 2, .inl fl))], [(td, .inl (Y 0, 6, .inl (rowF tr1)))], [(ch, .inl (Y 0, 6, .inl (rowF ch1)))]] H locs := hw
  obtain ⟨c1, e1⟩ : ∃ z, xs (i + 1) = z := ⟨_, rfl⟩
  obtain ⟨c2, e2⟩ : ∃ z, xs (i + 2) = z := ⟨_, rfl⟩
  rcases rngZ c1 0 ((ρ 4 : Int) - 1) (by decide) with hk1 | ⟨j1, rfl, g1, l1, u1⟩
  · refine case_bidder E e1 e2 hi (lt_bidder_1 l G Y xo ot _ _ f _ _ (t_X5_bidder_1 l E.fl G Y xo h0 h1 hh sl sv tz az (c1) (c2) ρ γ (hI) (ngT hk1)) rfl) (f_X6_bidder_1 l G Y mo rf tx n nw tr dy ct kp ik td ch sp ou ρ (c1) (c2) (hI) (hk1)) (by decide) (is := [0, 1, 2]) (isM := [12, 14]) rfl (by decide) (by decide) hf hw hl ?_
    rintro _ _ ⟨rfl, rfl⟩
    refine ⟨rfl, ⟨_, rfl⟩, ?_⟩
    rintro _ _ ⟨rfl, rfl⟩
    exact ⟨⟨_, 1, _, _, _, _, _, _, _, _, _, _, _, _, rfl, rfl, rfl, by decide, fun z => absurd z (by decide)⟩, fun H locs ls hw hl => K _ ρ _ _ _ nx ct rr _ κ0 _ κ1 _ fl n lt _ _ _ _ _ _ φ kf _ _ _ _ dia ⟨hI, hn, hlt, hr, hdi, hdv, hf0, hf1⟩ _ _ _ hw hl⟩
  · rcases rngZ c2 0 (4) (by decide) with hk2 | ⟨j2, rfl, g2, l2, u2⟩
    · refine case_bidder E e1 e2 hi (lt_bidder_2 l G Y xo ot _ _ f _ _ (t_X5_bidder_2 l E.fl G Y xo h0 h1 hh sl sv tz az (j1) (c2) ρ γ (hI) (by omega) (ngT hk2)) rfl) (f_X6_bidder_2 l G Y mo rf tx n nw tr dy ct kp ik td ch sp ou ρ (j1) (c2) (hI) (by omega) (hk2)) (by decide) (is := [0, 1, 2]) (isM := [12, 14]) rfl (by decide) (by decide) hf hw hl ?_
      rintro _ _ ⟨rfl, rfl⟩
      refine ⟨rfl, ⟨_, rfl⟩, ?_⟩
      rintro _ _ ⟨rfl, rfl⟩
      exact ⟨⟨_, 2, _, _, _, _, _, _, _, _, _, _, _, _, rfl, rfl, rfl, by decide, fun z => absurd z (by decide)⟩, fun H locs ls hw hl => K _ ρ _ _ _ nx ct rr _ κ0 _ κ1 _ fl n lt _ _ _ _ _ _ φ kf _ _ _ _ dia ⟨hI, hn, hlt, hr, hdi, hdv, hf0, hf1⟩ _ _ _ hw hl⟩
    · refine case_bidder E e1 e2 hi (lk_bidder l G Y xo ot _ _ f _ _ (k_X5_bidder l G Y xo h0 h1 hh sl sv tz az (j1) (j2) ρ γ (hI) (by omega) (by omega)) rfl) (k_X6_bidder l G Y mo rf tx n nw tr dy ct kp ik td ch sp ou ρ (j1) (j2) (hI) (by omega) (by omega)) (by decide) (is := [0, 1, 2]) (isM := [12, 14]) rfl (by decide) (by decide) hf hw hl ?_
      rintro _ _ ⟨rfl, _, _, ⟨rfl, rfl⟩, rfl⟩
      refine ⟨rfl, ⟨_, rfl⟩, ?_⟩
      rintro _ _ ⟨rfl, rfl⟩
      exact ⟨⟨_, 0, _, _, _, _, _, _, _, _, _, _, _, _, rfl, rfl, rfl, by decide, fun _ => rfl⟩, fun H locs ls hw hl => K _ ρ _ _ _ nx ct rr _ κ0 _ κ1 _ fl n lt _ _ _ _ _ _ φ kf _ _ _ _ dia ⟨hI, hn, hlt, hr, hdi, hdv, hf0, hf1⟩ _ _ _ hw hl⟩
set_option maxHeartbeats 4000000 in
theorem step_demand (E : LE p l R s m args c G Y A b L xs) (hi : i + 6 ≤ L) (hf : cells + 1 ≤ R.cells ∧ slots + 6 ≤ R.slots) (f : Nat → Int64) (ρ : Nat → Nat) (γ : Nat → Nat → Nat) (κ : Nat → Nat) (γ1 : Nat → Nat → Nat) (nx : Nat) (ct : Nat) (rr : Nat → Nat → Nat) (gg : Nat → Nat → Nat → Nat) (κ0 : Nat → Nat) (δ0 : Nat → Nat → Nat) (κ1 : Nat → Nat) (δ1 : Nat → Nat → Nat) (fl : Nat → Int32) (n : Nat) (lt : Nat → Nat) (lf : Nat → Nat) (tk : Nat → Int32) (bt : Nat → Int32) (bw : Int32) (rf : Nat) (φt : Nat → Nat) (φ : Nat → Nat) (kf : Nat → Nat) (tr1 : Nat → Nat) (ch1 : Nat → Nat) (sp : Nat) (ou : Nat) (dia : Nat → Nat → Nat) (hJ : LJ ρ n lt nx ct rr dia φ fl κ0 kf κ1) (hw : xW G A s.heap (jW Y xo h0 h1 hh hb2 sl a0 a1 sv tz az mo tx nw tr dy kp ik td ch ot f ρ γ κ γ1 nx ct rr gg κ0 δ0 κ1 δ1 fl n lt lf tk bt bw rf φt φ kf tr1 ch1 sp ou dia) H locs) (hl : lv_has ls 7 [(0, .ref b), (1, .ref xo), (2, .ref mo), (3, .ref ot), (4, .int (nI i))]) (K : LK p l e R s m args below meth c G Y A b i xo h0 h1 hh hb2 sl a0 a1 sv tz az mo tx nw tr dy kp ik td ch ot (cells + 1) (slots + 6) Q) : W p l e R s m args below meth c H locs cells slots Q (F0 m 506 ls []) := by
  obtain ⟨hI, hn, hlt, hr, hdi, hdv, hf0, hf1⟩ := hJ
  have hw : xW G A s.heap [outS Y ot f, [(xo, .inr (4, [.ref h0, .ref h1, .ref hh, .ref sl, .ref sv, .ref tz, .ref az]))], aucW Y h0 ρ γ, aucW Y h1 κ γ1, hisW Y hh hb2 nx ct, ringW Y hb2 rr gg, [(sl, .inl (Y 4, 2, .inr (.inr (.inr (.inr (fun k => some (if k = 0 then a0 else a1)))))))], aucW Y a0 κ0 δ0, aucW Y a1 κ1 δ1, [(sv, .inl (Y 1, 2, .inl fl))], txtW Y tz lt n, asgW Y az lf tk bt bw, [(mo, .inr (5, [.int (nI rf), .ref tx, .int (nI n), .ref nw, .ref tr, .ref dy, .int (nI ct), .ref kp, .ref ik, .ref td, .ref ch, .int (nI sp), .int (nI ou)]))], [(tx, .inl (Y 0, 120, .inl (rowF lt)))], [(nw, .inl (Y 0, 140, .inl (rowF ρ)))], [(tr, .inl (Y 0, 140, .inl (rowF φt)))], [(dy, .inl (Y 0, 1960, .inl (rowF φ)))], [(kp, .inl (Y 0, 280, .inl (rowF kf)))], [(ik, .inl (Y 1, 2, .inl fl))], [(td, .inl (Y 0, 6, .inl (rowF tr1)))], [(ch, .inl (Y 0, 6, .inl (rowF ch1)))]] H locs := hw
  obtain ⟨c1, e1⟩ : ∃ z, xs (i + 1) = z := ⟨_, rfl⟩
  obtain ⟨c2, e2⟩ : ∃ z, xs (i + 2) = z := ⟨_, rfl⟩
  rcases rngZ c1 0 ((ρ 4 : Int) - 1) (by decide) with hk1 | ⟨j1, rfl, g1, l1, u1⟩
  · refine case_demand E e1 e2 hi (lt_demand_1 l G Y xo ot _ _ f _ _ (t_X5_demand_1 l E.fl G Y xo h0 h1 hh sl sv tz az (c1) (c2) ρ γ (hI) (ngT hk1)) rfl) (f_X6_demand_1 l G Y mo rf tx n nw tr dy ct kp ik td ch sp ou ρ (c1) (c2) (hI) (hk1)) (by decide) (is := [0, 1, 2]) (isM := [12, 14]) rfl (by decide) (by decide) hf hw hl ?_
    rintro _ _ ⟨rfl, rfl⟩
    refine ⟨rfl, ⟨_, rfl⟩, ?_⟩
    rintro _ _ ⟨rfl, rfl⟩
    exact ⟨⟨_, 1, _, _, _, _, _, _, _, _, _, _, _, _, rfl, rfl, rfl, by decide, fun z => absurd z (by decide)⟩, fun H locs ls hw hl => K _ ρ _ _ _ nx ct rr _ κ0 _ κ1 _ fl n lt _ _ _ _ _ _ φ kf _ _ _ _ dia ⟨hI, hn, hlt, hr, hdi, hdv, hf0, hf1⟩ _ _ _ hw hl⟩
  · rcases rngZ c2 0 (2) (by decide) with hk2 | ⟨j2, rfl, g2, l2, u2⟩
    · refine case_demand E e1 e2 hi (lt_demand_1 l G Y xo ot _ _ f _ _ (t_X5_demand_2 l E.fl G Y xo h0 h1 hh sl sv tz az (j1) (c2) ρ γ (hI) (by omega) (ngT hk2)) rfl) (f_X6_demand_2 l G Y mo rf tx n nw tr dy ct kp ik td ch sp ou ρ (j1) (c2) (hI) (by omega) (hk2)) (by decide) (is := [0, 1, 2]) (isM := [12, 14]) rfl (by decide) (by decide) hf hw hl ?_
      rintro _ _ ⟨rfl, rfl⟩
      refine ⟨rfl, ⟨_, rfl⟩, ?_⟩
      rintro _ _ ⟨rfl, rfl⟩
      exact ⟨⟨_, 1, _, _, _, _, _, _, _, _, _, _, _, _, rfl, rfl, rfl, by decide, fun z => absurd z (by decide)⟩, fun H locs ls hw hl => K _ ρ _ _ _ nx ct rr _ κ0 _ κ1 _ fl n lt _ _ _ _ _ _ φ kf _ _ _ _ dia ⟨hI, hn, hlt, hr, hdi, hdv, hf0, hf1⟩ _ _ _ hw hl⟩
    · refine case_demand E e1 e2 hi (lk_demand l G Y xo ot _ _ f _ _ (k_X5_demand l G Y xo h0 h1 hh sl sv tz az (j1) (j2) ρ γ (hI) (by omega) (by omega)) rfl) (k_X6_demand l G Y mo rf tx n nw tr dy ct kp ik td ch sp ou ρ (j1) (j2) (hI) (by omega) (by omega)) (by decide) (is := [0, 1, 2]) (isM := [12, 14]) rfl (by decide) (by decide) hf hw hl ?_
      rintro _ _ ⟨rfl, _, _, ⟨rfl, rfl⟩, rfl⟩
      refine ⟨rfl, ⟨_, rfl⟩, ?_⟩
      rintro _ _ ⟨rfl, rfl⟩
      exact ⟨⟨_, 0, _, _, _, _, _, _, _, _, _, _, _, _, rfl, rfl, rfl, by decide, fun _ => rfl⟩, fun H locs ls hw hl => K _ ρ _ _ _ nx ct rr _ κ0 _ κ1 _ fl n lt _ _ _ _ _ _ φ kf _ _ _ _ dia ⟨hI, hn, hlt, hr, hdi, hdv, hf0, hf1⟩ _ _ _ hw hl⟩
set_option maxHeartbeats 4000000 in
theorem step_wouldAsk (E : LE p l R s m args c G Y A b L xs) (hi : i + 6 ≤ L) (hf : cells + 1 ≤ R.cells ∧ slots + 6 ≤ R.slots) (f : Nat → Int64) (ρ : Nat → Nat) (γ : Nat → Nat → Nat) (κ : Nat → Nat) (γ1 : Nat → Nat → Nat) (nx : Nat) (ct : Nat) (rr : Nat → Nat → Nat) (gg : Nat → Nat → Nat → Nat) (κ0 : Nat → Nat) (δ0 : Nat → Nat → Nat) (κ1 : Nat → Nat) (δ1 : Nat → Nat → Nat) (fl : Nat → Int32) (n : Nat) (lt : Nat → Nat) (lf : Nat → Nat) (tk : Nat → Int32) (bt : Nat → Int32) (bw : Int32) (rf : Nat) (φt : Nat → Nat) (φ : Nat → Nat) (kf : Nat → Nat) (tr1 : Nat → Nat) (ch1 : Nat → Nat) (sp : Nat) (ou : Nat) (dia : Nat → Nat → Nat) (hJ : LJ ρ n lt nx ct rr dia φ fl κ0 kf κ1) (hw : xW G A s.heap (jW Y xo h0 h1 hh hb2 sl a0 a1 sv tz az mo tx nw tr dy kp ik td ch ot f ρ γ κ γ1 nx ct rr gg κ0 δ0 κ1 δ1 fl n lt lf tk bt bw rf φt φ kf tr1 ch1 sp ou dia) H locs) (hl : lv_has ls 7 [(0, .ref b), (1, .ref xo), (2, .ref mo), (3, .ref ot), (4, .int (nI i))]) (K : LK p l e R s m args below meth c G Y A b i xo h0 h1 hh hb2 sl a0 a1 sv tz az mo tx nw tr dy kp ik td ch ot (cells + 1) (slots + 6) Q) : W p l e R s m args below meth c H locs cells slots Q (F0 m 1664 ls []) := by
  obtain ⟨hI, hn, hlt, hr, hdi, hdv, hf0, hf1⟩ := hJ
  have hw : xW G A s.heap [outS Y ot f, [(xo, .inr (4, [.ref h0, .ref h1, .ref hh, .ref sl, .ref sv, .ref tz, .ref az]))], aucW Y h0 ρ γ, aucW Y h1 κ γ1, hisW Y hh hb2 nx ct, ringW Y hb2 rr gg, [(sl, .inl (Y 4, 2, .inr (.inr (.inr (.inr (fun k => some (if k = 0 then a0 else a1)))))))], aucW Y a0 κ0 δ0, aucW Y a1 κ1 δ1, [(sv, .inl (Y 1, 2, .inl fl))], txtW Y tz lt n, asgW Y az lf tk bt bw, [(mo, .inr (5, [.int (nI rf), .ref tx, .int (nI n), .ref nw, .ref tr, .ref dy, .int (nI ct), .ref kp, .ref ik, .ref td, .ref ch, .int (nI sp), .int (nI ou)]))], [(tx, .inl (Y 0, 120, .inl (rowF lt)))], [(nw, .inl (Y 0, 140, .inl (rowF ρ)))], [(tr, .inl (Y 0, 140, .inl (rowF φt)))], [(dy, .inl (Y 0, 1960, .inl (rowF φ)))], [(kp, .inl (Y 0, 280, .inl (rowF kf)))], [(ik, .inl (Y 1, 2, .inl fl))], [(td, .inl (Y 0, 6, .inl (rowF tr1)))], [(ch, .inl (Y 0, 6, .inl (rowF ch1)))]] H locs := hw
  obtain ⟨c1, e1⟩ : ∃ z, xs (i + 1) = z := ⟨_, rfl⟩
  obtain ⟨c2, e2⟩ : ∃ z, xs (i + 2) = z := ⟨_, rfl⟩
  rcases rngZ c1 0 ((ρ 4 : Int) - 1) (by decide) with hk1 | ⟨j1, rfl, g1, l1, u1⟩
  · refine case_wouldAsk E e1 e2 hi (lt_wouldAsk_1 l G Y xo ot _ _ f _ _ (t_X5_wouldAsk_1 l E.fl G Y xo h0 h1 hh sl sv tz az (c1) (c2) ρ γ (hI) (ngT hk1)) rfl) (f_X6_wouldAsk_1 l G Y mo rf tx n nw tr dy ct kp ik td ch sp ou ρ (c1) (c2) (hI) (hk1)) (by decide) (is := [0, 1, 2]) (isM := [12, 14]) rfl (by decide) (by decide) hf hw hl ?_
    rintro _ _ ⟨rfl, rfl⟩
    refine ⟨rfl, ⟨_, rfl⟩, ?_⟩
    rintro _ _ ⟨rfl, rfl⟩
    exact ⟨⟨_, 1, _, _, _, _, _, _, _, _, _, _, _, _, rfl, rfl, rfl, by decide, fun z => absurd z (by decide)⟩, fun H locs ls hw hl => K _ ρ _ _ _ nx ct rr _ κ0 _ κ1 _ fl n lt _ _ _ _ _ _ φ kf _ _ _ _ dia ⟨hI, hn, hlt, hr, hdi, hdv, hf0, hf1⟩ _ _ _ hw hl⟩
  · rcases rngZ c2 0 (2) (by decide) with hk2 | ⟨j2, rfl, g2, l2, u2⟩
    · refine case_wouldAsk E e1 e2 hi (lt_wouldAsk_1 l G Y xo ot _ _ f _ _ (t_X5_wouldAsk_2 l E.fl G Y xo h0 h1 hh sl sv tz az (j1) (c2) ρ γ (hI) (by omega) (ngT hk2)) rfl) (f_X6_wouldAsk_2 l G Y mo rf tx n nw tr dy ct kp ik td ch sp ou ρ (j1) (c2) (hI) (by omega) (hk2)) (by decide) (is := [0, 1, 2]) (isM := [12, 14]) rfl (by decide) (by decide) hf hw hl ?_
      rintro _ _ ⟨rfl, rfl⟩
      refine ⟨rfl, ⟨_, rfl⟩, ?_⟩
      rintro _ _ ⟨rfl, rfl⟩
      exact ⟨⟨_, 1, _, _, _, _, _, _, _, _, _, _, _, _, rfl, rfl, rfl, by decide, fun z => absurd z (by decide)⟩, fun H locs ls hw hl => K _ ρ _ _ _ nx ct rr _ κ0 _ κ1 _ fl n lt _ _ _ _ _ _ φ kf _ _ _ _ dia ⟨hI, hn, hlt, hr, hdi, hdv, hf0, hf1⟩ _ _ _ hw hl⟩
    · refine case_wouldAsk E e1 e2 hi (lk_wouldAsk l G Y xo ot _ _ f _ _ (k_X5_wouldAsk l G Y xo h0 h1 hh sl sv tz az (j1) (j2) ρ γ κ γ1 (hI) (by omega) (by omega)) rfl) (k_X6_wouldAsk l G Y mo rf tx n nw tr dy ct kp ik td ch sp ou ρ φt (j1) (j2) (hI) (by omega) (by omega)) (by decide) (is := [0, 1, 2, 3]) (isM := [12, 14, 15]) rfl (by decide) (by decide) hf hw hl ?_
      rintro _ _ ⟨rfl, _, _, ⟨rfl, γ', rfl⟩, rfl⟩
      refine ⟨rfl, ⟨_, rfl⟩, ?_⟩
      rintro _ _ ⟨rfl, rfl⟩
      exact ⟨⟨_, 0, _, _, _, _, _, _, _, _, _, _, _, _, rfl, rfl, rfl, by decide, fun _ => rfl⟩, fun H locs ls hw hl => K _ ρ _ _ _ nx ct rr _ κ0 _ κ1 _ fl n lt _ _ _ _ _ _ φ kf _ _ _ _ dia ⟨hI, hn, hlt, hr, hdi, hdv, hf0, hf1⟩ _ _ _ hw hl⟩
set_option maxHeartbeats 4000000 in
theorem step_pack (E : LE p l R s m args c G Y A b L xs) (hi : i + 6 ≤ L) (hf : cells + 1 ≤ R.cells ∧ slots + 6 ≤ R.slots) (f : Nat → Int64) (ρ : Nat → Nat) (γ : Nat → Nat → Nat) (κ : Nat → Nat) (γ1 : Nat → Nat → Nat) (nx : Nat) (ct : Nat) (rr : Nat → Nat → Nat) (gg : Nat → Nat → Nat → Nat) (κ0 : Nat → Nat) (δ0 : Nat → Nat → Nat) (κ1 : Nat → Nat) (δ1 : Nat → Nat → Nat) (fl : Nat → Int32) (n : Nat) (lt : Nat → Nat) (lf : Nat → Nat) (tk : Nat → Int32) (bt : Nat → Int32) (bw : Int32) (rf : Nat) (φt : Nat → Nat) (φ : Nat → Nat) (kf : Nat → Nat) (tr1 : Nat → Nat) (ch1 : Nat → Nat) (sp : Nat) (ou : Nat) (dia : Nat → Nat → Nat) (hJ : LJ ρ n lt nx ct rr dia φ fl κ0 kf κ1) (hw : xW G A s.heap (jW Y xo h0 h1 hh hb2 sl a0 a1 sv tz az mo tx nw tr dy kp ik td ch ot f ρ γ κ γ1 nx ct rr gg κ0 δ0 κ1 δ1 fl n lt lf tk bt bw rf φt φ kf tr1 ch1 sp ou dia) H locs) (hl : lv_has ls 7 [(0, .ref b), (1, .ref xo), (2, .ref mo), (3, .ref ot), (4, .int (nI i))]) (K : LK p l e R s m args below meth c G Y A b i xo h0 h1 hh hb2 sl a0 a1 sv tz az mo tx nw tr dy kp ik td ch ot (cells + 1) (slots + 6) Q) : W p l e R s m args below meth c H locs cells slots Q (F0 m 574 ls []) := by
  obtain ⟨hI, hn, hlt, hr, hdi, hdv, hf0, hf1⟩ := hJ
  have hw : xW G A s.heap [outS Y ot f, [(xo, .inr (4, [.ref h0, .ref h1, .ref hh, .ref sl, .ref sv, .ref tz, .ref az]))], aucW Y h0 ρ γ, aucW Y h1 κ γ1, hisW Y hh hb2 nx ct, ringW Y hb2 rr gg, [(sl, .inl (Y 4, 2, .inr (.inr (.inr (.inr (fun k => some (if k = 0 then a0 else a1)))))))], aucW Y a0 κ0 δ0, aucW Y a1 κ1 δ1, [(sv, .inl (Y 1, 2, .inl fl))], txtW Y tz lt n, asgW Y az lf tk bt bw, [(mo, .inr (5, [.int (nI rf), .ref tx, .int (nI n), .ref nw, .ref tr, .ref dy, .int (nI ct), .ref kp, .ref ik, .ref td, .ref ch, .int (nI sp), .int (nI ou)]))], [(tx, .inl (Y 0, 120, .inl (rowF lt)))], [(nw, .inl (Y 0, 140, .inl (rowF ρ)))], [(tr, .inl (Y 0, 140, .inl (rowF φt)))], [(dy, .inl (Y 0, 1960, .inl (rowF φ)))], [(kp, .inl (Y 0, 280, .inl (rowF kf)))], [(ik, .inl (Y 1, 2, .inl fl))], [(td, .inl (Y 0, 6, .inl (rowF tr1)))], [(ch, .inl (Y 0, 6, .inl (rowF ch1)))]] H locs := hw
  obtain ⟨c1, e1⟩ : ∃ z, xs (i + 1) = z := ⟨_, rfl⟩
  obtain ⟨c2, e2⟩ : ∃ z, xs (i + 2) = z := ⟨_, rfl⟩
  obtain ⟨c3, e3⟩ : ∃ z, xs (i + 3) = z := ⟨_, rfl⟩
  rcases rngZ c1 0 ((ρ 4 : Int) - 1) (by decide) with hk1 | ⟨j1, rfl, g1, l1, u1⟩
  · refine case_pack E e1 e2 e3 hi (lt_pack_1 l G Y xo ot _ _ _ f _ _ (t_X5_pack_1 l E.fl G Y xo h0 h1 hh sl sv tz az (c1) (c2) (c3) ρ γ (hI) (ngT hk1)) rfl) (f_X6_pack_1 l G Y mo rf tx n nw tr dy ct kp ik td ch sp ou ρ (c1) (c2) (c3) (hI) (hk1)) (by decide) (is := [0, 1, 2]) (isM := [12, 14]) rfl (by decide) (by decide) hf hw hl ?_
    rintro _ _ ⟨rfl, rfl⟩
    refine ⟨rfl, ⟨_, rfl⟩, ?_⟩
    rintro _ _ ⟨rfl, rfl⟩
    exact ⟨⟨_, 1, _, _, _, _, _, _, _, _, _, _, _, _, rfl, rfl, rfl, by decide, fun z => absurd z (by decide)⟩, fun H locs ls hw hl => K _ ρ _ _ _ nx ct rr _ κ0 _ κ1 _ fl n lt _ _ _ _ _ _ φ kf _ _ _ _ dia ⟨hI, hn, hlt, hr, hdi, hdv, hf0, hf1⟩ _ _ _ hw hl⟩
  · rcases rngZ c2 0 ((ρ (22 + 21 * j1) : Int)) (by decide) with hk2 | ⟨j2, rfl, g2, l2, u2⟩
    · refine case_pack E e1 e2 e3 hi (lt_pack_1 l G Y xo ot _ _ _ f _ _ (t_X5_pack_2 l E.fl G Y xo h0 h1 hh sl sv tz az (j1) (c2) (c3) ρ γ (hI) (by omega) (ngT hk2)) rfl) (f_X6_pack_2 l G Y mo rf tx n nw tr dy ct kp ik td ch sp ou ρ (j1) (c2) (c3) (hI) (by omega) (hk2)) (by decide) (is := [0, 1, 2]) (isM := [12, 14]) rfl (by decide) (by decide) hf hw hl ?_
      rintro _ _ ⟨rfl, rfl⟩
      refine ⟨rfl, ⟨_, rfl⟩, ?_⟩
      rintro _ _ ⟨rfl, rfl⟩
      exact ⟨⟨_, 1, _, _, _, _, _, _, _, _, _, _, _, _, rfl, rfl, rfl, by decide, fun z => absurd z (by decide)⟩, fun H locs ls hw hl => K _ ρ _ _ _ nx ct rr _ κ0 _ κ1 _ fl n lt _ _ _ _ _ _ φ kf _ _ _ _ dia ⟨hI, hn, hlt, hr, hdi, hdv, hf0, hf1⟩ _ _ _ hw hl⟩
    · rcases rngZ c3 0 (3) (by decide) with hk3 | ⟨j3, rfl, g3, l3, u3⟩
      · refine case_pack E e1 e2 e3 hi (lt_pack_2 l G Y xo ot _ _ _ f _ _ (t_X5_pack_3 l E.fl G Y xo h0 h1 hh sl sv tz az (j1) (j2) (c3) ρ γ (hI) (by omega) (by omega) (ngT hk3)) rfl) (f_X6_pack_3 l G Y mo rf tx n nw tr dy ct kp ik td ch sp ou ρ (j1) (j2) (c3) (hI) (by omega) (by omega) (hk3)) (by decide) (is := [0, 1, 2]) (isM := [12, 14]) rfl (by decide) (by decide) hf hw hl ?_
        rintro _ _ ⟨rfl, rfl⟩
        refine ⟨rfl, ⟨_, rfl⟩, ?_⟩
        rintro _ _ ⟨rfl, rfl⟩
        exact ⟨⟨_, 2, _, _, _, _, _, _, _, _, _, _, _, _, rfl, rfl, rfl, by decide, fun z => absurd z (by decide)⟩, fun H locs ls hw hl => K _ ρ _ _ _ nx ct rr _ κ0 _ κ1 _ fl n lt _ _ _ _ _ _ φ kf _ _ _ _ dia ⟨hI, hn, hlt, hr, hdi, hdv, hf0, hf1⟩ _ _ _ hw hl⟩
      · refine case_pack E e1 e2 e3 hi (lk_pack l G Y xo ot _ _ _ f _ _ (k_X5_pack l G Y xo h0 h1 hh sl sv tz az (j1) (j2) (j3) ρ γ (hI) (by omega) (by omega) (by omega)) rfl) (k_X6_pack l G Y mo rf tx n nw tr dy ct kp ik td ch sp ou ρ (j1) (j2) (j3) (hI) (by omega) (by omega) (by omega)) (by decide) (is := [0, 1, 2]) (isM := [12, 14]) rfl (by decide) (by decide) hf hw hl ?_
        rintro _ _ ⟨rfl, _, _, ⟨rfl, rfl⟩, rfl⟩
        refine ⟨rfl, ⟨_, rfl⟩, ?_⟩
        rintro _ _ ⟨rfl, rfl⟩
        exact ⟨⟨_, 0, _, _, _, _, _, _, _, _, _, _, _, _, rfl, rfl, rfl, by decide, fun _ => rfl⟩, fun H locs ls hw hl => K _ ρ _ _ _ nx ct rr _ κ0 _ κ1 _ fl n lt _ _ _ _ _ _ φ kf _ _ _ _ dia ⟨hI, hn, hlt, hr, hdi, hdv, hf0, hf1⟩ _ _ _ hw hl⟩
set_option maxHeartbeats 4000000 in
theorem step_setting (E : LE p l R s m args c G Y A b L xs) (hi : i + 6 ≤ L) (hf : cells + 1 ≤ R.cells ∧ slots + 6 ≤ R.slots) (f : Nat → Int64) (ρ : Nat → Nat) (γ : Nat → Nat → Nat) (κ : Nat → Nat) (γ1 : Nat → Nat → Nat) (nx : Nat) (ct : Nat) (rr : Nat → Nat → Nat) (gg : Nat → Nat → Nat → Nat) (κ0 : Nat → Nat) (δ0 : Nat → Nat → Nat) (κ1 : Nat → Nat) (δ1 : Nat → Nat → Nat) (fl : Nat → Int32) (n : Nat) (lt : Nat → Nat) (lf : Nat → Nat) (tk : Nat → Int32) (bt : Nat → Int32) (bw : Int32) (rf : Nat) (φt : Nat → Nat) (φ : Nat → Nat) (kf : Nat → Nat) (tr1 : Nat → Nat) (ch1 : Nat → Nat) (sp : Nat) (ou : Nat) (dia : Nat → Nat → Nat) (hJ : LJ ρ n lt nx ct rr dia φ fl κ0 kf κ1) (hw : xW G A s.heap (jW Y xo h0 h1 hh hb2 sl a0 a1 sv tz az mo tx nw tr dy kp ik td ch ot f ρ γ κ γ1 nx ct rr gg κ0 δ0 κ1 δ1 fl n lt lf tk bt bw rf φt φ kf tr1 ch1 sp ou dia) H locs) (hl : lv_has ls 7 [(0, .ref b), (1, .ref xo), (2, .ref mo), (3, .ref ot), (4, .int (nI i))]) (K : LK p l e R s m args below meth c G Y A b i xo h0 h1 hh hb2 sl a0 a1 sv tz az mo tx nw tr dy kp ik td ch ot (cells + 1) (slots + 6) Q) : W p l e R s m args below meth c H locs cells slots Q (F0 m 654 ls []) := by
  obtain ⟨hI, hn, hlt, hr, hdi, hdv, hf0, hf1⟩ := hJ
  have hw : xW G A s.heap [outS Y ot f, [(xo, .inr (4, [.ref h0, .ref h1, .ref hh, .ref sl, .ref sv, .ref tz, .ref az]))], aucW Y h0 ρ γ, aucW Y h1 κ γ1, hisW Y hh hb2 nx ct, ringW Y hb2 rr gg, [(sl, .inl (Y 4, 2, .inr (.inr (.inr (.inr (fun k => some (if k = 0 then a0 else a1)))))))], aucW Y a0 κ0 δ0, aucW Y a1 κ1 δ1, [(sv, .inl (Y 1, 2, .inl fl))], txtW Y tz lt n, asgW Y az lf tk bt bw, [(mo, .inr (5, [.int (nI rf), .ref tx, .int (nI n), .ref nw, .ref tr, .ref dy, .int (nI ct), .ref kp, .ref ik, .ref td, .ref ch, .int (nI sp), .int (nI ou)]))], [(tx, .inl (Y 0, 120, .inl (rowF lt)))], [(nw, .inl (Y 0, 140, .inl (rowF ρ)))], [(tr, .inl (Y 0, 140, .inl (rowF φt)))], [(dy, .inl (Y 0, 1960, .inl (rowF φ)))], [(kp, .inl (Y 0, 280, .inl (rowF kf)))], [(ik, .inl (Y 1, 2, .inl fl))], [(td, .inl (Y 0, 6, .inl (rowF tr1)))], [(ch, .inl (Y 0, 6, .inl (rowF ch1)))]] H locs := hw
  obtain ⟨c1, e1⟩ : ∃ z, xs (i + 1) = z := ⟨_, rfl⟩
  rcases rngZ c1 0 (1) (by decide) with hk1 | ⟨j1, rfl, g1, l1, u1⟩
  · refine case_setting E e1 hi (lt_setting_1 l G Y xo ot _ f _ _ (t_X5_setting l E.fl G Y xo h0 h1 hh sl sv tz az (c1) ρ γ (ngT hk1)) rfl) (f_X6_setting l G Y mo rf tx n nw tr dy ct kp ik td ch sp ou ρ (c1) (hk1)) (by decide) (is := [0, 1, 2]) (isM := [12, 14]) rfl (by decide) (by decide) hf hw hl ?_
    rintro _ _ ⟨rfl, rfl⟩
    refine ⟨rfl, ⟨_, rfl⟩, ?_⟩
    rintro _ _ ⟨rfl, rfl⟩
    exact ⟨⟨_, 1, _, _, _, _, _, _, _, _, _, _, _, _, rfl, rfl, rfl, by decide, fun z => absurd z (by decide)⟩, fun H locs ls hw hl => K _ ρ _ _ _ nx ct rr _ κ0 _ κ1 _ fl n lt _ _ _ _ _ _ φ kf _ _ _ _ dia ⟨hI, hn, hlt, hr, hdi, hdv, hf0, hf1⟩ _ _ _ hw hl⟩
  · refine case_setting E e1 hi (lk_setting l G Y xo ot _ f _ _ (k_X5_setting l G Y xo h0 h1 hh sl sv tz az (j1) ρ γ (hI) (by omega)) rfl) (k_X6_setting l G Y mo rf tx n nw tr dy ct kp ik td ch sp ou ρ (j1) (hI) (by omega)) (by decide) (is := [0, 1, 2]) (isM := [12, 14]) rfl (by decide) (by decide) hf hw hl ?_
    rintro _ _ ⟨rfl, _, _, ⟨rfl, rfl⟩, rfl⟩
    refine ⟨rfl, ⟨_, rfl⟩, ?_⟩
    rintro _ _ ⟨rfl, rfl⟩
    exact ⟨⟨_, 0, _, _, _, _, _, _, _, _, _, _, _, _, rfl, rfl, rfl, by decide, fun _ => rfl⟩, fun H locs ls hw hl => K _ ρ _ _ _ nx ct rr _ κ0 _ κ1 _ fl n lt _ _ _ _ _ _ φ kf _ _ _ _ dia ⟨hI, hn, hlt, hr, hdi, hdv, hf0, hf1⟩ _ _ _ hw hl⟩
set_option maxHeartbeats 4000000 in
theorem step_gets (E : LE p l R s m args c G Y A b L xs) (hi : i + 6 ≤ L) (hf : cells + 1 ≤ R.cells ∧ slots + 6 ≤ R.slots) (f : Nat → Int64) (ρ : Nat → Nat) (γ : Nat → Nat → Nat) (κ : Nat → Nat) (γ1 : Nat → Nat → Nat) (nx : Nat) (ct : Nat) (rr : Nat → Nat → Nat) (gg : Nat → Nat → Nat → Nat) (κ0 : Nat → Nat) (δ0 : Nat → Nat → Nat) (κ1 : Nat → Nat) (δ1 : Nat → Nat → Nat) (fl : Nat → Int32) (n : Nat) (lt : Nat → Nat) (lf : Nat → Nat) (tk : Nat → Int32) (bt : Nat → Int32) (bw : Int32) (rf : Nat) (φt : Nat → Nat) (φ : Nat → Nat) (kf : Nat → Nat) (tr1 : Nat → Nat) (ch1 : Nat → Nat) (sp : Nat) (ou : Nat) (dia : Nat → Nat → Nat) (hJ : LJ ρ n lt nx ct rr dia φ fl κ0 kf κ1) (hw : xW G A s.heap (jW Y xo h0 h1 hh hb2 sl a0 a1 sv tz az mo tx nw tr dy kp ik td ch ot f ρ γ κ γ1 nx ct rr gg κ0 δ0 κ1 δ1 fl n lt lf tk bt bw rf φt φ kf tr1 ch1 sp ou dia) H locs) (hl : lv_has ls 7 [(0, .ref b), (1, .ref xo), (2, .ref mo), (3, .ref ot), (4, .int (nI i))]) (K : LK p l e R s m args below meth c G Y A b i xo h0 h1 hh hb2 sl a0 a1 sv tz az mo tx nw tr dy kp ik td ch ot (cells + 1) (slots + 6) Q) : W p l e R s m args below meth c H locs cells slots Q (F0 m 1483 ls []) := by
  obtain ⟨hI, hn, hlt, hr, hdi, hdv, hf0, hf1⟩ := hJ
  have hw : xW G A s.heap [outS Y ot f, [(xo, .inr (4, [.ref h0, .ref h1, .ref hh, .ref sl, .ref sv, .ref tz, .ref az]))], aucW Y h0 ρ γ, aucW Y h1 κ γ1, hisW Y hh hb2 nx ct, ringW Y hb2 rr gg, [(sl, .inl (Y 4, 2, .inr (.inr (.inr (.inr (fun k => some (if k = 0 then a0 else a1)))))))], aucW Y a0 κ0 δ0, aucW Y a1 κ1 δ1, [(sv, .inl (Y 1, 2, .inl fl))], txtW Y tz lt n, asgW Y az lf tk bt bw, [(mo, .inr (5, [.int (nI rf), .ref tx, .int (nI n), .ref nw, .ref tr, .ref dy, .int (nI ct), .ref kp, .ref ik, .ref td, .ref ch, .int (nI sp), .int (nI ou)]))], [(tx, .inl (Y 0, 120, .inl (rowF lt)))], [(nw, .inl (Y 0, 140, .inl (rowF ρ)))], [(tr, .inl (Y 0, 140, .inl (rowF φt)))], [(dy, .inl (Y 0, 1960, .inl (rowF φ)))], [(kp, .inl (Y 0, 280, .inl (rowF kf)))], [(ik, .inl (Y 1, 2, .inl fl))], [(td, .inl (Y 0, 6, .inl (rowF tr1)))], [(ch, .inl (Y 0, 6, .inl (rowF ch1)))]] H locs := hw
  obtain ⟨c1, e1⟩ : ∃ z, xs (i + 1) = z := ⟨_, rfl⟩
  rcases rngZ c1 0 ((ρ 4 : Int) - 1) (by decide) with hk1 | ⟨j1, rfl, g1, l1, u1⟩
  · refine case_gets E e1 hi (lt_gets_1 l G Y xo ot _ f _ _ (t_X5_gets l E.fl G Y xo h0 h1 hh sl sv tz az (c1) ρ γ (hI) (ngT hk1)) rfl) (f_X6_gets l G Y mo rf tx n nw tr dy ct kp ik td ch sp ou ρ (c1) (hI) (hk1)) (by decide) (is := [0, 1, 2]) (isM := [12, 14]) rfl (by decide) (by decide) hf hw hl ?_
    rintro _ _ ⟨rfl, rfl⟩
    refine ⟨rfl, ⟨_, rfl⟩, ?_⟩
    rintro _ _ ⟨rfl, rfl⟩
    exact ⟨⟨_, 1, _, _, _, _, _, _, _, _, _, _, _, _, rfl, rfl, rfl, by decide, fun z => absurd z (by decide)⟩, fun H locs ls hw hl => K _ ρ _ _ _ nx ct rr _ κ0 _ κ1 _ fl n lt _ _ _ _ _ _ φ kf _ _ _ _ dia ⟨hI, hn, hlt, hr, hdi, hdv, hf0, hf1⟩ _ _ _ hw hl⟩
  · refine case_gets E e1 hi (lk_gets l G Y xo ot _ f _ _ (k_X5_gets l G Y xo h0 h1 hh sl sv tz az (j1) lf tk bt bw ρ γ (hI) (by omega)) rfl) (k_X6_gets l G Y mo rf tx n nw tr dy ct kp ik td ch sp ou ρ tr1 ch1 (j1) (hI) (by omega)) (by decide) (is := [0, 1, 2, 11]) (isM := [12, 14, 19, 20]) rfl (by decide) (by decide) hf hw hl ?_
    rintro _ _ ⟨rfl, _, _, ⟨rfl, lf', tk', bt', bw', rfl⟩, rfl⟩
    refine ⟨rfl, ⟨_, rfl⟩, ?_⟩
    rintro _ _ ⟨rfl, tr', ch', rfl⟩
    exact ⟨⟨_, 0, _, _, _, _, _, _, _, _, _, _, _, _, rfl, rfl, rfl, by decide, fun _ => rfl⟩, fun H locs ls hw hl => K _ ρ _ _ _ nx ct rr _ κ0 _ κ1 _ fl n lt _ _ _ _ _ _ φ kf _ _ _ _ dia ⟨hI, hn, hlt, hr, hdi, hdv, hf0, hf1⟩ _ _ _ hw hl⟩
set_option maxHeartbeats 4000000 in
theorem step_pays (E : LE p l R s m args c G Y A b L xs) (hi : i + 6 ≤ L) (hf : cells + 1 ≤ R.cells ∧ slots + 6 ≤ R.slots) (f : Nat → Int64) (ρ : Nat → Nat) (γ : Nat → Nat → Nat) (κ : Nat → Nat) (γ1 : Nat → Nat → Nat) (nx : Nat) (ct : Nat) (rr : Nat → Nat → Nat) (gg : Nat → Nat → Nat → Nat) (κ0 : Nat → Nat) (δ0 : Nat → Nat → Nat) (κ1 : Nat → Nat) (δ1 : Nat → Nat → Nat) (fl : Nat → Int32) (n : Nat) (lt : Nat → Nat) (lf : Nat → Nat) (tk : Nat → Int32) (bt : Nat → Int32) (bw : Int32) (rf : Nat) (φt : Nat → Nat) (φ : Nat → Nat) (kf : Nat → Nat) (tr1 : Nat → Nat) (ch1 : Nat → Nat) (sp : Nat) (ou : Nat) (dia : Nat → Nat → Nat) (hJ : LJ ρ n lt nx ct rr dia φ fl κ0 kf κ1) (hw : xW G A s.heap (jW Y xo h0 h1 hh hb2 sl a0 a1 sv tz az mo tx nw tr dy kp ik td ch ot f ρ γ κ γ1 nx ct rr gg κ0 δ0 κ1 δ1 fl n lt lf tk bt bw rf φt φ kf tr1 ch1 sp ou dia) H locs) (hl : lv_has ls 7 [(0, .ref b), (1, .ref xo), (2, .ref mo), (3, .ref ot), (4, .int (nI i))]) (K : LK p l e R s m args below meth c G Y A b i xo h0 h1 hh hb2 sl a0 a1 sv tz az mo tx nw tr dy kp ik td ch ot (cells + 1) (slots + 6) Q) : W p l e R s m args below meth c H locs cells slots Q (F0 m 1539 ls []) := by
  obtain ⟨hI, hn, hlt, hr, hdi, hdv, hf0, hf1⟩ := hJ
  have hw : xW G A s.heap [outS Y ot f, [(xo, .inr (4, [.ref h0, .ref h1, .ref hh, .ref sl, .ref sv, .ref tz, .ref az]))], aucW Y h0 ρ γ, aucW Y h1 κ γ1, hisW Y hh hb2 nx ct, ringW Y hb2 rr gg, [(sl, .inl (Y 4, 2, .inr (.inr (.inr (.inr (fun k => some (if k = 0 then a0 else a1)))))))], aucW Y a0 κ0 δ0, aucW Y a1 κ1 δ1, [(sv, .inl (Y 1, 2, .inl fl))], txtW Y tz lt n, asgW Y az lf tk bt bw, [(mo, .inr (5, [.int (nI rf), .ref tx, .int (nI n), .ref nw, .ref tr, .ref dy, .int (nI ct), .ref kp, .ref ik, .ref td, .ref ch, .int (nI sp), .int (nI ou)]))], [(tx, .inl (Y 0, 120, .inl (rowF lt)))], [(nw, .inl (Y 0, 140, .inl (rowF ρ)))], [(tr, .inl (Y 0, 140, .inl (rowF φt)))], [(dy, .inl (Y 0, 1960, .inl (rowF φ)))], [(kp, .inl (Y 0, 280, .inl (rowF kf)))], [(ik, .inl (Y 1, 2, .inl fl))], [(td, .inl (Y 0, 6, .inl (rowF tr1)))], [(ch, .inl (Y 0, 6, .inl (rowF ch1)))]] H locs := hw
  obtain ⟨c1, e1⟩ : ∃ z, xs (i + 1) = z := ⟨_, rfl⟩
  rcases rngZ c1 0 ((ρ 4 : Int) - 1) (by decide) with hk1 | ⟨j1, rfl, g1, l1, u1⟩
  · refine case_pays E e1 hi (lt_pays_1 l G Y xo ot _ f _ _ (t_X5_pays l E.fl G Y xo h0 h1 hh sl sv tz az (c1) ρ γ (hI) (ngT hk1)) rfl) (f_X6_pays l G Y mo rf tx n nw tr dy ct kp ik td ch sp ou ρ (c1) (hI) (hk1)) (by decide) (is := [0, 1, 2]) (isM := [12, 14]) rfl (by decide) (by decide) hf hw hl ?_
    rintro _ _ ⟨rfl, rfl⟩
    refine ⟨rfl, ⟨_, rfl⟩, ?_⟩
    rintro _ _ ⟨rfl, rfl⟩
    exact ⟨⟨_, 1, _, _, _, _, _, _, _, _, _, _, _, _, rfl, rfl, rfl, by decide, fun z => absurd z (by decide)⟩, fun H locs ls hw hl => K _ ρ _ _ _ nx ct rr _ κ0 _ κ1 _ fl n lt _ _ _ _ _ _ φ kf _ _ _ _ dia ⟨hI, hn, hlt, hr, hdi, hdv, hf0, hf1⟩ _ _ _ hw hl⟩
  · refine case_pays E e1 hi (lk_pays l G Y xo ot _ f _ _ (k_X5_pays l G Y xo h0 h1 hh sl sv tz az (j1) lf tk bt bw ρ γ (hI) (by omega)) rfl) (k_X6_pays l G Y mo rf tx n nw tr dy ct kp ik td ch sp ou ρ tr1 ch1 (j1) (hI) (by omega)) (by decide) (is := [0, 1, 2, 11]) (isM := [12, 14, 19, 20]) rfl (by decide) (by decide) hf hw hl ?_
    rintro _ _ ⟨rfl, _, _, ⟨rfl, lf', tk', bt', bw', rfl⟩, rfl⟩
    refine ⟨rfl, ⟨_, rfl⟩, ?_⟩
    rintro _ _ ⟨rfl, tr', ch', rfl⟩
    exact ⟨⟨_, 0, _, _, _, _, _, _, _, _, _, _, _, _, rfl, rfl, rfl, by decide, fun _ => rfl⟩, fun H locs ls hw hl => K _ ρ _ _ _ nx ct rr _ κ0 _ κ1 _ fl n lt _ _ _ _ _ _ φ kf _ _ _ _ dia ⟨hI, hn, hlt, hr, hdi, hdv, hf0, hf1⟩ _ _ _ hw hl⟩
set_option maxHeartbeats 4000000 in
theorem step_oneMore (E : LE p l R s m args c G Y A b L xs) (hi : i + 6 ≤ L) (hf : cells + 1 ≤ R.cells ∧ slots + 6 ≤ R.slots) (f : Nat → Int64) (ρ : Nat → Nat) (γ : Nat → Nat → Nat) (κ : Nat → Nat) (γ1 : Nat → Nat → Nat) (nx : Nat) (ct : Nat) (rr : Nat → Nat → Nat) (gg : Nat → Nat → Nat → Nat) (κ0 : Nat → Nat) (δ0 : Nat → Nat → Nat) (κ1 : Nat → Nat) (δ1 : Nat → Nat → Nat) (fl : Nat → Int32) (n : Nat) (lt : Nat → Nat) (lf : Nat → Nat) (tk : Nat → Int32) (bt : Nat → Int32) (bw : Int32) (rf : Nat) (φt : Nat → Nat) (φ : Nat → Nat) (kf : Nat → Nat) (tr1 : Nat → Nat) (ch1 : Nat → Nat) (sp : Nat) (ou : Nat) (dia : Nat → Nat → Nat) (hJ : LJ ρ n lt nx ct rr dia φ fl κ0 kf κ1) (hw : xW G A s.heap (jW Y xo h0 h1 hh hb2 sl a0 a1 sv tz az mo tx nw tr dy kp ik td ch ot f ρ γ κ γ1 nx ct rr gg κ0 δ0 κ1 δ1 fl n lt lf tk bt bw rf φt φ kf tr1 ch1 sp ou dia) H locs) (hl : lv_has ls 7 [(0, .ref b), (1, .ref xo), (2, .ref mo), (3, .ref ot), (4, .int (nI i))]) (K : LK p l e R s m args below meth c G Y A b i xo h0 h1 hh hb2 sl a0 a1 sv tz az mo tx nw tr dy kp ik td ch ot (cells + 1) (slots + 6) Q) : W p l e R s m args below meth c H locs cells slots Q (F0 m 1595 ls []) := by
  obtain ⟨hI, hn, hlt, hr, hdi, hdv, hf0, hf1⟩ := hJ
  have hw : xW G A s.heap [outS Y ot f, [(xo, .inr (4, [.ref h0, .ref h1, .ref hh, .ref sl, .ref sv, .ref tz, .ref az]))], aucW Y h0 ρ γ, aucW Y h1 κ γ1, hisW Y hh hb2 nx ct, ringW Y hb2 rr gg, [(sl, .inl (Y 4, 2, .inr (.inr (.inr (.inr (fun k => some (if k = 0 then a0 else a1)))))))], aucW Y a0 κ0 δ0, aucW Y a1 κ1 δ1, [(sv, .inl (Y 1, 2, .inl fl))], txtW Y tz lt n, asgW Y az lf tk bt bw, [(mo, .inr (5, [.int (nI rf), .ref tx, .int (nI n), .ref nw, .ref tr, .ref dy, .int (nI ct), .ref kp, .ref ik, .ref td, .ref ch, .int (nI sp), .int (nI ou)]))], [(tx, .inl (Y 0, 120, .inl (rowF lt)))], [(nw, .inl (Y 0, 140, .inl (rowF ρ)))], [(tr, .inl (Y 0, 140, .inl (rowF φt)))], [(dy, .inl (Y 0, 1960, .inl (rowF φ)))], [(kp, .inl (Y 0, 280, .inl (rowF kf)))], [(ik, .inl (Y 1, 2, .inl fl))], [(td, .inl (Y 0, 6, .inl (rowF tr1)))], [(ch, .inl (Y 0, 6, .inl (rowF ch1)))]] H locs := hw
  obtain ⟨c1, e1⟩ : ∃ z, xs (i + 1) = z := ⟨_, rfl⟩
  rcases rngZ c1 0 (2) (by decide) with hk1 | ⟨j1, rfl, g1, l1, u1⟩
  · refine case_oneMore E e1 hi (lt_oneMore_1 l G Y xo ot _ f _ _ (t_X5_oneMore l E.fl G Y xo h0 h1 hh sl sv tz az (c1) (ngT hk1)) rfl) (f_X6_oneMore l G Y mo rf tx n nw tr dy ct kp ik td ch sp ou ρ (c1) (hk1)) (by decide) (is := [0, 1]) (isM := [12, 14]) rfl (by decide) (by decide) hf hw hl ?_
    rintro _ _ ⟨rfl, rfl⟩
    refine ⟨rfl, ⟨_, rfl⟩, ?_⟩
    rintro _ _ ⟨rfl, rfl⟩
    exact ⟨⟨_, 1, _, _, _, _, _, _, _, _, _, _, _, _, rfl, rfl, rfl, by decide, fun z => absurd z (by decide)⟩, fun H locs ls hw hl => K _ ρ _ _ _ nx ct rr _ κ0 _ κ1 _ fl n lt _ _ _ _ _ _ φ kf _ _ _ _ dia ⟨hI, hn, hlt, hr, hdi, hdv, hf0, hf1⟩ _ _ _ hw hl⟩
  · refine case_oneMore E e1 hi (lk_oneMore l G Y xo ot _ f _ _ (k_X5_oneMore l G Y xo h0 h1 hh sl sv tz az (j1) lf tk bt bw ρ γ (hI) (by omega)) rfl) (k_X6_oneMore l G Y mo rf tx n nw tr dy ct kp ik td ch sp ou ρ tr1 ch1 (j1) (hI) (by omega)) (by decide) (is := [0, 1, 2, 11]) (isM := [12, 14, 19, 20]) rfl (by decide) (by decide) hf hw hl ?_
    rintro _ _ ⟨rfl, _, _, ⟨rfl, lf', tk', bt', bw', rfl⟩, rfl⟩
    refine ⟨rfl, ⟨_, rfl⟩, ?_⟩
    rintro _ _ ⟨rfl, tr', ch', rfl⟩
    exact ⟨⟨_, 0, _, _, _, _, _, _, _, _, _, _, _, _, rfl, rfl, rfl, by decide, fun _ => rfl⟩, fun H locs ls hw hl => K _ ρ _ _ _ nx ct rr _ κ0 _ κ1 _ fl n lt _ _ _ _ _ _ φ kf _ _ _ _ dia ⟨hI, hn, hlt, hr, hdi, hdv, hf0, hf1⟩ _ _ _ hw hl⟩
set_option maxHeartbeats 4000000 in
theorem step_endPrice (E : LE p l R s m args c G Y A b L xs) (hi : i + 6 ≤ L) (hf : cells + 1 ≤ R.cells ∧ slots + 6 ≤ R.slots) (f : Nat → Int64) (ρ : Nat → Nat) (γ : Nat → Nat → Nat) (κ : Nat → Nat) (γ1 : Nat → Nat → Nat) (nx : Nat) (ct : Nat) (rr : Nat → Nat → Nat) (gg : Nat → Nat → Nat → Nat) (κ0 : Nat → Nat) (δ0 : Nat → Nat → Nat) (κ1 : Nat → Nat) (δ1 : Nat → Nat → Nat) (fl : Nat → Int32) (n : Nat) (lt : Nat → Nat) (lf : Nat → Nat) (tk : Nat → Int32) (bt : Nat → Int32) (bw : Int32) (rf : Nat) (φt : Nat → Nat) (φ : Nat → Nat) (kf : Nat → Nat) (tr1 : Nat → Nat) (ch1 : Nat → Nat) (sp : Nat) (ou : Nat) (dia : Nat → Nat → Nat) (hJ : LJ ρ n lt nx ct rr dia φ fl κ0 kf κ1) (hw : xW G A s.heap (jW Y xo h0 h1 hh hb2 sl a0 a1 sv tz az mo tx nw tr dy kp ik td ch ot f ρ γ κ γ1 nx ct rr gg κ0 δ0 κ1 δ1 fl n lt lf tk bt bw rf φt φ kf tr1 ch1 sp ou dia) H locs) (hl : lv_has ls 7 [(0, .ref b), (1, .ref xo), (2, .ref mo), (3, .ref ot), (4, .int (nI i))]) (K : LK p l e R s m args below meth c G Y A b i xo h0 h1 hh hb2 sl a0 a1 sv tz az mo tx nw tr dy kp ik td ch ot (cells + 1) (slots + 6) Q) : W p l e R s m args below meth c H locs cells slots Q (F0 m 1745 ls []) := by
  obtain ⟨hI, hn, hlt, hr, hdi, hdv, hf0, hf1⟩ := hJ
  have hw : xW G A s.heap [outS Y ot f, [(xo, .inr (4, [.ref h0, .ref h1, .ref hh, .ref sl, .ref sv, .ref tz, .ref az]))], aucW Y h0 ρ γ, aucW Y h1 κ γ1, hisW Y hh hb2 nx ct, ringW Y hb2 rr gg, [(sl, .inl (Y 4, 2, .inr (.inr (.inr (.inr (fun k => some (if k = 0 then a0 else a1)))))))], aucW Y a0 κ0 δ0, aucW Y a1 κ1 δ1, [(sv, .inl (Y 1, 2, .inl fl))], txtW Y tz lt n, asgW Y az lf tk bt bw, [(mo, .inr (5, [.int (nI rf), .ref tx, .int (nI n), .ref nw, .ref tr, .ref dy, .int (nI ct), .ref kp, .ref ik, .ref td, .ref ch, .int (nI sp), .int (nI ou)]))], [(tx, .inl (Y 0, 120, .inl (rowF lt)))], [(nw, .inl (Y 0, 140, .inl (rowF ρ)))], [(tr, .inl (Y 0, 140, .inl (rowF φt)))], [(dy, .inl (Y 0, 1960, .inl (rowF φ)))], [(kp, .inl (Y 0, 280, .inl (rowF kf)))], [(ik, .inl (Y 1, 2, .inl fl))], [(td, .inl (Y 0, 6, .inl (rowF tr1)))], [(ch, .inl (Y 0, 6, .inl (rowF ch1)))]] H locs := hw
  obtain ⟨c1, e1⟩ : ∃ z, xs (i + 1) = z := ⟨_, rfl⟩
  rcases rngZ c1 0 (2) (by decide) with hk1 | ⟨j1, rfl, g1, l1, u1⟩
  · refine case_endPrice E e1 hi (lt_endPrice_1 l G Y xo ot _ f _ _ (t_X5_endPrice l E.fl G Y xo h0 h1 hh sl sv tz az (c1) (ngT hk1)) rfl) (f_X6_endPrice l G Y mo rf tx n nw tr dy ct kp ik td ch sp ou ρ (c1) (hk1)) (by decide) (is := [0, 1]) (isM := [12, 14]) rfl (by decide) (by decide) hf hw hl ?_
    rintro _ _ ⟨rfl, rfl⟩
    refine ⟨rfl, ⟨_, rfl⟩, ?_⟩
    rintro _ _ ⟨rfl, rfl⟩
    exact ⟨⟨_, 1, _, _, _, _, _, _, _, _, _, _, _, _, rfl, rfl, rfl, by decide, fun z => absurd z (by decide)⟩, fun H locs ls hw hl => K _ ρ _ _ _ nx ct rr _ κ0 _ κ1 _ fl n lt _ _ _ _ _ _ φ kf _ _ _ _ dia ⟨hI, hn, hlt, hr, hdi, hdv, hf0, hf1⟩ _ _ _ hw hl⟩
  · refine case_endPrice E e1 hi (lk_endPrice l G Y xo ot _ f _ _ (k_X5_endPrice l G Y xo h0 h1 hh sl sv tz az (j1) ρ γ κ γ1 (hI) (by omega)) rfl) (k_X6_endPrice l G Y mo rf tx n nw tr dy ct kp ik td ch sp ou ρ φt (j1) (hI) (by omega)) (by decide) (is := [0, 1, 2, 3]) (isM := [12, 14, 15]) rfl (by decide) (by decide) hf hw hl ?_
    rintro _ _ ⟨rfl, _, _, ⟨rfl, γ', rfl⟩, rfl⟩
    refine ⟨rfl, ⟨_, rfl⟩, ?_⟩
    rintro _ _ ⟨rfl, rfl⟩
    exact ⟨⟨_, 0, _, _, _, _, _, _, _, _, _, _, _, _, rfl, rfl, rfl, by decide, fun _ => rfl⟩, fun H locs ls hw hl => K _ ρ _ _ _ nx ct rr _ κ0 _ κ1 _ fl n lt _ _ _ _ _ _ φ kf _ _ _ _ dia ⟨hI, hn, hlt, hr, hdi, hdv, hf0, hf1⟩ _ _ _ hw hl⟩
theorem rs_sn {j : Nat} {sc : Int64} (h1 : 1 ≤ j ∧ j ≤ 3) (h : 0 ≤ sc.toInt ∧ sc.toInt < 100000 * (((if j = 1 then 1 else if j = 2 then 100000 else 10000000000 : Nat)) : Int)) : ∃ sn, sc = lN sn ∧ ((j = 1 ∧ sn < 100000) ∨ (j = 2 ∧ sn < 10000000000) ∨ (j = 3 ∧ sn < 1000000000000000)) := by
  have hb : sc.toInt < 1000000000000000 := by
    rcases (show j = 1 ∨ j = 2 ∨ j = 3 by omega) with rfl | rfl | rfl <;> (have := h.2; simp at this; omega)
  refine ⟨sc.toInt.toNat, ?_, ?_⟩
  · apply Int64.toInt_inj.mp
    rw [lNt (by omega)]
    omega
  · rcases (show j = 1 ∨ j = 2 ∨ j = 3 by omega) with rfl | rfl | rfl
    · exact Or.inl ⟨rfl, by have := h.2; simp at this; omega⟩
    · exact Or.inr (Or.inl ⟨rfl, by have := h.2; simp at this; omega⟩)
    · exact Or.inr (Or.inr ⟨rfl, by have := h.2; simp at this; omega⟩)
set_option maxHeartbeats 4000000 in
theorem step_runScript (E : LE p l R s m args c G Y A b L xs) (hi : i + 6 ≤ L) (hf : cells + 1 ≤ R.cells ∧ slots + 6 ≤ R.slots) (f : Nat → Int64) (ρ : Nat → Nat) (γ : Nat → Nat → Nat) (κ : Nat → Nat) (γ1 : Nat → Nat → Nat) (nx : Nat) (ct : Nat) (rr : Nat → Nat → Nat) (gg : Nat → Nat → Nat → Nat) (κ0 : Nat → Nat) (δ0 : Nat → Nat → Nat) (κ1 : Nat → Nat) (δ1 : Nat → Nat → Nat) (fl : Nat → Int32) (n : Nat) (lt : Nat → Nat) (lf : Nat → Nat) (tk : Nat → Int32) (bt : Nat → Int32) (bw : Int32) (rf : Nat) (φt : Nat → Nat) (φ : Nat → Nat) (kf : Nat → Nat) (tr1 : Nat → Nat) (ch1 : Nat → Nat) (sp : Nat) (ou : Nat) (dia : Nat → Nat → Nat) (hJ : LJ ρ n lt nx ct rr dia φ fl κ0 kf κ1) (hw : xW G A s.heap (jW Y xo h0 h1 hh hb2 sl a0 a1 sv tz az mo tx nw tr dy kp ik td ch ot f ρ γ κ γ1 nx ct rr gg κ0 δ0 κ1 δ1 fl n lt lf tk bt bw rf φt φ kf tr1 ch1 sp ou dia) H locs) (hl : lv_has ls 7 [(0, .ref b), (1, .ref xo), (2, .ref mo), (3, .ref ot), (4, .int (nI i))]) (K : LK p l e R s m args below meth c G Y A b i xo h0 h1 hh hb2 sl a0 a1 sv tz az mo tx nw tr dy kp ik td ch ot (cells + 1) (slots + 6) Q) : W p l e R s m args below meth c H locs cells slots Q (F0 m 1801 ls []) := by
  obtain ⟨hI, hn, hlt, hr, hdi, hdv, hf0, hf1⟩ := hJ
  have hw : xW G A s.heap [outS Y ot f, [(xo, .inr (4, [.ref h0, .ref h1, .ref hh, .ref sl, .ref sv, .ref tz, .ref az]))], aucW Y h0 ρ γ, aucW Y h1 κ γ1, hisW Y hh hb2 nx ct, ringW Y hb2 rr gg, [(sl, .inl (Y 4, 2, .inr (.inr (.inr (.inr (fun k => some (if k = 0 then a0 else a1)))))))], aucW Y a0 κ0 δ0, aucW Y a1 κ1 δ1, [(sv, .inl (Y 1, 2, .inl fl))], txtW Y tz lt n, asgW Y az lf tk bt bw, [(mo, .inr (5, [.int (nI rf), .ref tx, .int (nI n), .ref nw, .ref tr, .ref dy, .int (nI ct), .ref kp, .ref ik, .ref td, .ref ch, .int (nI sp), .int (nI ou)]))], [(tx, .inl (Y 0, 120, .inl (rowF lt)))], [(nw, .inl (Y 0, 140, .inl (rowF ρ)))], [(tr, .inl (Y 0, 140, .inl (rowF φt)))], [(dy, .inl (Y 0, 1960, .inl (rowF φ)))], [(kp, .inl (Y 0, 280, .inl (rowF kf)))], [(ik, .inl (Y 1, 2, .inl fl))], [(td, .inl (Y 0, 6, .inl (rowF tr1)))], [(ch, .inl (Y 0, 6, .inl (rowF ch1)))]] H locs := hw
  obtain ⟨c1, e1⟩ : ∃ z, xs (i + 1) = z := ⟨_, rfl⟩
  obtain ⟨c2, e2⟩ : ∃ z, xs (i + 2) = z := ⟨_, rfl⟩
  obtain ⟨c3, e3⟩ : ∃ z, xs (i + 3) = z := ⟨_, rfl⟩
  obtain ⟨sc, esc⟩ : ∃ z, ((c2.toInt64 <<< ((nI 32).toInt64 &&& 63)) ||| ((c3.toInt64) &&& 4294967295)) = z := ⟨_, rfl⟩
  rcases rngZ c1 1 (3) (by decide) with hk1 | ⟨j1, rfl, g1, l1, u1⟩
  · refine case_runScript E e1 e2 e3 esc hi (lt_runScript_1 l G Y xo ot _ _ f _ _ (t_X5_runScript_1 l E.fl G Y xo h0 h1 hh sl sv tz az (c1) (sc) (ngT hk1)) rfl) (f_X6_runScript_1 l G Y mo rf tx n nw tr dy ct kp ik td ch sp ou ρ (c1) (sc) (hk1)) (by decide) (is := [0, 1]) (isM := [12, 14]) rfl (by decide) (by decide) hf hw hl ?_
    rintro _ _ ⟨rfl, rfl⟩
    refine ⟨rfl, ⟨_, rfl⟩, ?_⟩
    rintro _ _ ⟨rfl, rfl⟩
    exact ⟨⟨_, 1, _, _, _, _, _, _, _, _, _, _, _, _, rfl, rfl, rfl, by decide, fun z => absurd z (by decide)⟩, fun H locs ls hw hl => K _ ρ _ _ _ nx ct rr _ κ0 _ κ1 _ fl n lt _ _ _ _ _ _ φ kf _ _ _ _ dia ⟨hI, hn, hlt, hr, hdi, hdv, hf0, hf1⟩ _ _ _ hw hl⟩
  · by_cases hq : 0 ≤ sc.toInt ∧ sc.toInt < 100000 * (((if j1 = 1 then 1 else if j1 = 2 then 100000 else 10000000000 : Nat)) : Int)
    · obtain ⟨sn, rfl, hs⟩ := rs_sn ⟨by omega, by omega⟩ hq
      refine case_runScript E e1 e2 e3 esc hi (lk_runScript l G Y xo ot _ _ f _ _ (k_X5_runScript l G Y xo h0 h1 hh sl sv tz az (j1) (sn) ρ γ κ γ1 (hI) (hs)) rfl) (k_X6_runScript l G Y mo rf tx n nw tr dy ct kp ik td ch sp ou ρ φt (j1) (sn) (hI) (hs)) (by decide) (is := [0, 1, 2, 3]) (isM := [12, 14, 15]) rfl (by decide) (by decide) hf hw hl ?_
      rintro _ _ ⟨rfl, _, _, ⟨rfl, κ', γ', rfl⟩, rfl⟩
      refine ⟨rfl, ⟨_, rfl⟩, ?_⟩
      rintro _ _ ⟨rfl, σ', rfl⟩
      exact ⟨⟨_, 0, _, _, _, _, _, _, _, _, _, _, _, _, rfl, rfl, rfl, by decide, fun _ => rfl⟩, fun H locs ls hw hl => K _ ρ _ _ _ nx ct rr _ κ0 _ κ1 _ fl n lt _ _ _ _ _ _ φ kf _ _ _ _ dia ⟨hI, hn, hlt, hr, hdi, hdv, hf0, hf1⟩ _ _ _ hw hl⟩
    · refine case_runScript E e1 e2 e3 esc hi (lt_runScript_1 l G Y xo ot _ _ f _ _ (t_X5_runScript_2 l E.fl G Y xo h0 h1 hh sl sv tz az (j1) (sc) (⟨by omega, by omega⟩) (hq)) rfl) (f_X6_runScript_2 l G Y mo rf tx n nw tr dy ct kp ik td ch sp ou ρ (j1) (sc) (⟨by omega, by omega⟩) (hq)) (by decide) (is := [0, 1]) (isM := [12, 14]) rfl (by decide) (by decide) hf hw hl ?_
      rintro _ _ ⟨rfl, rfl⟩
      refine ⟨rfl, ⟨_, rfl⟩, ?_⟩
      rintro _ _ ⟨rfl, rfl⟩
      exact ⟨⟨_, 1, _, _, _, _, _, _, _, _, _, _, _, _, rfl, rfl, rfl, by decide, fun z => absurd z (by decide)⟩, fun H locs ls hw hl => K _ ρ _ _ _ nx ct rr _ κ0 _ κ1 _ fl n lt _ _ _ _ _ _ φ kf _ _ _ _ dia ⟨hI, hn, hlt, hr, hdi, hdv, hf0, hf1⟩ _ _ _ hw hl⟩
set_option maxHeartbeats 4000000 in
theorem step_simulate (E : LE p l R s m args c G Y A b L xs) (hi : i + 6 ≤ L) (hf : cells + 1 ≤ R.cells ∧ slots + 6 ≤ R.slots) (f : Nat → Int64) (ρ : Nat → Nat) (γ : Nat → Nat → Nat) (κ : Nat → Nat) (γ1 : Nat → Nat → Nat) (nx : Nat) (ct : Nat) (rr : Nat → Nat → Nat) (gg : Nat → Nat → Nat → Nat) (κ0 : Nat → Nat) (δ0 : Nat → Nat → Nat) (κ1 : Nat → Nat) (δ1 : Nat → Nat → Nat) (fl : Nat → Int32) (n : Nat) (lt : Nat → Nat) (lf : Nat → Nat) (tk : Nat → Int32) (bt : Nat → Int32) (bw : Int32) (rf : Nat) (φt : Nat → Nat) (φ : Nat → Nat) (kf : Nat → Nat) (tr1 : Nat → Nat) (ch1 : Nat → Nat) (sp : Nat) (ou : Nat) (dia : Nat → Nat → Nat) (hJ : LJ ρ n lt nx ct rr dia φ fl κ0 kf κ1) (hw : xW G A s.heap (jW Y xo h0 h1 hh hb2 sl a0 a1 sv tz az mo tx nw tr dy kp ik td ch ot f ρ γ κ γ1 nx ct rr gg κ0 δ0 κ1 δ1 fl n lt lf tk bt bw rf φt φ kf tr1 ch1 sp ou dia) H locs) (hl : lv_has ls 7 [(0, .ref b), (1, .ref xo), (2, .ref mo), (3, .ref ot), (4, .int (nI i))]) (K : LK p l e R s m args below meth c G Y A b i xo h0 h1 hh hb2 sl a0 a1 sv tz az mo tx nw tr dy kp ik td ch ot (cells + 1) (slots + 6) Q) : W p l e R s m args below meth c H locs cells slots Q (F0 m 1901 ls []) := by
  obtain ⟨hI, hn, hlt, hr, hdi, hdv, hf0, hf1⟩ := hJ
  have hw : xW G A s.heap [outS Y ot f, [(xo, .inr (4, [.ref h0, .ref h1, .ref hh, .ref sl, .ref sv, .ref tz, .ref az]))], aucW Y h0 ρ γ, aucW Y h1 κ γ1, hisW Y hh hb2 nx ct, ringW Y hb2 rr gg, [(sl, .inl (Y 4, 2, .inr (.inr (.inr (.inr (fun k => some (if k = 0 then a0 else a1)))))))], aucW Y a0 κ0 δ0, aucW Y a1 κ1 δ1, [(sv, .inl (Y 1, 2, .inl fl))], txtW Y tz lt n, asgW Y az lf tk bt bw, [(mo, .inr (5, [.int (nI rf), .ref tx, .int (nI n), .ref nw, .ref tr, .ref dy, .int (nI ct), .ref kp, .ref ik, .ref td, .ref ch, .int (nI sp), .int (nI ou)]))], [(tx, .inl (Y 0, 120, .inl (rowF lt)))], [(nw, .inl (Y 0, 140, .inl (rowF ρ)))], [(tr, .inl (Y 0, 140, .inl (rowF φt)))], [(dy, .inl (Y 0, 1960, .inl (rowF φ)))], [(kp, .inl (Y 0, 280, .inl (rowF kf)))], [(ik, .inl (Y 1, 2, .inl fl))], [(td, .inl (Y 0, 6, .inl (rowF tr1)))], [(ch, .inl (Y 0, 6, .inl (rowF ch1)))]] H locs := hw
  obtain ⟨c1, e1⟩ : ∃ z, xs (i + 1) = z := ⟨_, rfl⟩
  obtain ⟨c2, e2⟩ : ∃ z, xs (i + 2) = z := ⟨_, rfl⟩
  obtain ⟨c3, e3⟩ : ∃ z, xs (i + 3) = z := ⟨_, rfl⟩
  obtain ⟨sc, esc⟩ : ∃ z, ((c1.toInt64 <<< ((nI 32).toInt64 &&& 63)) ||| ((c2.toInt64) &&& 4294967295)) = z := ⟨_, rfl⟩
  rcases rngZ c3 1 (99) (by decide) with hk3 | ⟨j3, rfl, g3, l3, u3⟩
  · refine case_simulate E e1 e2 e3 esc hi (lt_simulate_1 l G Y xo ot _ _ f _ _ (t_X5_simulate l E.fl G Y xo h0 h1 hh sl sv tz az (sc) (c3) (ngT hk3)) rfl) (f_X6_simulate l G Y mo rf tx n nw tr dy ct kp ik td ch sp ou ρ (sc) (c3) (hk3)) (by decide) (is := [0, 1]) (isM := [12, 14]) rfl (by decide) (by decide) hf hw hl ?_
    rintro _ _ ⟨rfl, rfl⟩
    refine ⟨rfl, ⟨_, rfl⟩, ?_⟩
    rintro _ _ ⟨rfl, rfl⟩
    exact ⟨⟨_, 1, _, _, _, _, _, _, _, _, _, _, _, _, rfl, rfl, rfl, by decide, fun z => absurd z (by decide)⟩, fun H locs ls hw hl => K _ ρ _ _ _ nx ct rr _ κ0 _ κ1 _ fl n lt _ _ _ _ _ _ φ kf _ _ _ _ dia ⟨hI, hn, hlt, hr, hdi, hdv, hf0, hf1⟩ _ _ _ hw hl⟩
  · refine case_simulate E e1 e2 e3 esc hi (lk_simulate l G Y xo ot _ _ f _ _ (k_X5_simulate l G Y xo h0 h1 hh sl sv tz az (sc) (j3) ρ γ κ γ1 (hI) (⟨by omega, by omega⟩)) rfl) (k_X6_simulate l G Y mo rf tx n nw tr dy ct kp ik td ch sp ou ρ φt (sc) (j3) (hI) (⟨by omega, by omega⟩)) (by decide) (is := [0, 1, 2, 3]) (isM := [12, 14, 15]) rfl (by decide) (by decide) hf hw hl ?_
    rintro _ _ ⟨rfl, _, _, ⟨rfl, κ', γ', rfl⟩, rfl⟩
    refine ⟨rfl, ⟨_, rfl⟩, ?_⟩
    rintro _ _ ⟨rfl, σ', rfl⟩
    exact ⟨⟨_, 0, _, _, _, _, _, _, _, _, _, _, _, _, rfl, rfl, rfl, by decide, fun _ => rfl⟩, fun H locs ls hw hl => K _ ρ _ _ _ nx ct rr _ κ0 _ κ1 _ fl n lt _ _ _ _ _ _ φ kf _ _ _ _ dia ⟨hI, hn, hlt, hr, hdi, hdv, hf0, hf1⟩ _ _ _ hw hl⟩
set_option maxHeartbeats 4000000 in
theorem step_save (E : LE p l R s m args c G Y A b L xs) (hi : i + 6 ≤ L) (hf : cells + 1 ≤ R.cells ∧ slots + 6 ≤ R.slots) (f : Nat → Int64) (ρ : Nat → Nat) (γ : Nat → Nat → Nat) (κ : Nat → Nat) (γ1 : Nat → Nat → Nat) (nx : Nat) (ct : Nat) (rr : Nat → Nat → Nat) (gg : Nat → Nat → Nat → Nat) (κ0 : Nat → Nat) (δ0 : Nat → Nat → Nat) (κ1 : Nat → Nat) (δ1 : Nat → Nat → Nat) (fl : Nat → Int32) (n : Nat) (lt : Nat → Nat) (lf : Nat → Nat) (tk : Nat → Int32) (bt : Nat → Int32) (bw : Int32) (rf : Nat) (φt : Nat → Nat) (φ : Nat → Nat) (kf : Nat → Nat) (tr1 : Nat → Nat) (ch1 : Nat → Nat) (sp : Nat) (ou : Nat) (dia : Nat → Nat → Nat) (hJ : LJ ρ n lt nx ct rr dia φ fl κ0 kf κ1) (hw : xW G A s.heap (jW Y xo h0 h1 hh hb2 sl a0 a1 sv tz az mo tx nw tr dy kp ik td ch ot f ρ γ κ γ1 nx ct rr gg κ0 δ0 κ1 δ1 fl n lt lf tk bt bw rf φt φ kf tr1 ch1 sp ou dia) H locs) (hl : lv_has ls 7 [(0, .ref b), (1, .ref xo), (2, .ref mo), (3, .ref ot), (4, .int (nI i))]) (K : LK p l e R s m args below meth c G Y A b i xo h0 h1 hh hb2 sl a0 a1 sv tz az mo tx nw tr dy kp ik td ch ot (cells + 1) (slots + 6) Q) : W p l e R s m args below meth c H locs cells slots Q (F0 m 2001 ls []) := by
  obtain ⟨hI, hn, hlt, hr, hdi, hdv, hf0, hf1⟩ := hJ
  have hw : xW G A s.heap [outS Y ot f, [(xo, .inr (4, [.ref h0, .ref h1, .ref hh, .ref sl, .ref sv, .ref tz, .ref az]))], aucW Y h0 ρ γ, aucW Y h1 κ γ1, hisW Y hh hb2 nx ct, ringW Y hb2 rr gg, [(sl, .inl (Y 4, 2, .inr (.inr (.inr (.inr (fun k => some (if k = 0 then a0 else a1)))))))], aucW Y a0 κ0 δ0, aucW Y a1 κ1 δ1, [(sv, .inl (Y 1, 2, .inl fl))], txtW Y tz lt n, asgW Y az lf tk bt bw, [(mo, .inr (5, [.int (nI rf), .ref tx, .int (nI n), .ref nw, .ref tr, .ref dy, .int (nI ct), .ref kp, .ref ik, .ref td, .ref ch, .int (nI sp), .int (nI ou)]))], [(tx, .inl (Y 0, 120, .inl (rowF lt)))], [(nw, .inl (Y 0, 140, .inl (rowF ρ)))], [(tr, .inl (Y 0, 140, .inl (rowF φt)))], [(dy, .inl (Y 0, 1960, .inl (rowF φ)))], [(kp, .inl (Y 0, 280, .inl (rowF kf)))], [(ik, .inl (Y 1, 2, .inl fl))], [(td, .inl (Y 0, 6, .inl (rowF tr1)))], [(ch, .inl (Y 0, 6, .inl (rowF ch1)))]] H locs := hw
  obtain ⟨c1, e1⟩ : ∃ z, xs (i + 1) = z := ⟨_, rfl⟩
  rcases rngZ c1 0 (1) (by decide) with hk1 | ⟨j1, rfl, g1, l1, u1⟩
  · refine case_save E e1 hi (lt_save_1 l G Y xo ot _ f _ _ (t_X5_save l E.fl G Y xo h0 h1 hh sl sv tz az (c1) (ngT hk1)) rfl) (f_X6_save l G Y mo rf tx n nw tr dy ct kp ik td ch sp ou ρ (c1) (hk1)) (by decide) (is := [0, 1]) (isM := [12, 14]) rfl (by decide) (by decide) hf hw hl ?_
    rintro _ _ ⟨rfl, rfl⟩
    refine ⟨rfl, ⟨_, rfl⟩, ?_⟩
    rintro _ _ ⟨rfl, rfl⟩
    exact ⟨⟨_, 1, _, _, _, _, _, _, _, _, _, _, _, _, rfl, rfl, rfl, by decide, fun z => absurd z (by decide)⟩, fun H locs ls hw hl => K _ ρ _ _ _ nx ct rr _ κ0 _ κ1 _ fl n lt _ _ _ _ _ _ φ kf _ _ _ _ dia ⟨hI, hn, hlt, hr, hdi, hdv, hf0, hf1⟩ _ _ _ hw hl⟩
  · obtain rfl | rfl : j1 = 0 ∨ j1 = 1 := by omega
    · refine case_save E e1 hi (lk_save l G Y xo ot _ f _ _ (k_X5_save_0 l G Y xo h0 h1 hh sl sv tz az a0 a1 fl κ0 δ0 κ1 δ1 ρ γ (hI)) rfl) (k_X6_save_0 l G Y mo rf tx n nw tr dy ct kp ik td ch sp ou ρ kf fl (hI)) (by decide) (is := [0, 1, 2, 6, 7, 8, 9]) (isM := [12, 14, 17, 18]) rfl (by decide) (by decide) hf hw hl ?_
      rintro _ _ ⟨rfl, _, _, ⟨rfl, rfl⟩, rfl⟩
      refine ⟨rfl, ⟨_, rfl⟩, ?_⟩
      rintro _ _ ⟨rfl, kf', hm0, hm1, rfl⟩
      exact ⟨⟨_, 0, _, _, _, _, _, _, _, _, _, _, _, _, rfl, rfl, rfl, by decide, fun _ => rfl⟩, fun H locs ls hw hl => K _ ρ _ _ _ nx ct rr _ ρ _ κ1 _ (upd fl 0 (nI 1)) n lt _ _ _ _ _ _ φ kf' _ _ _ _ dia ⟨hI, hn, hlt, hr, hdi, hdv, Or.inr ⟨rfl, hI, hm0⟩, hf1.imp id (fun ⟨a, b, z⟩ => ⟨a, b, fun q hq => (hm1 q hq).trans (z q hq)⟩)⟩ _ _ _ hw hl⟩
    · refine case_save E e1 hi (lk_save l G Y xo ot _ f _ _ (k_X5_save_1 l G Y xo h0 h1 hh sl sv tz az a0 a1 fl κ0 δ0 κ1 δ1 ρ γ (hI)) rfl) (k_X6_save_1 l G Y mo rf tx n nw tr dy ct kp ik td ch sp ou ρ kf fl (hI)) (by decide) (is := [0, 1, 2, 6, 7, 8, 9]) (isM := [12, 14, 17, 18]) rfl (by decide) (by decide) hf hw hl ?_
      rintro _ _ ⟨rfl, _, _, ⟨rfl, rfl⟩, rfl⟩
      refine ⟨rfl, ⟨_, rfl⟩, ?_⟩
      rintro _ _ ⟨rfl, kf', hm0, hm1, rfl⟩
      exact ⟨⟨_, 0, _, _, _, _, _, _, _, _, _, _, _, _, rfl, rfl, rfl, by decide, fun _ => rfl⟩, fun H locs ls hw hl => K _ ρ _ _ _ nx ct rr _ κ0 _ ρ _ (upd fl 1 (nI 1)) n lt _ _ _ _ _ _ φ kf' _ _ _ _ dia ⟨hI, hn, hlt, hr, hdi, hdv, hf0.imp id (fun ⟨a, b, z⟩ => ⟨a, b, fun q hq => (hm1 q hq).trans (z q hq)⟩), Or.inr ⟨rfl, hI, hm0⟩⟩ _ _ _ hw hl⟩
set_option maxHeartbeats 4000000 in
theorem step_restore (E : LE p l R s m args c G Y A b L xs) (hi : i + 6 ≤ L) (hf : cells + 1 ≤ R.cells ∧ slots + 6 ≤ R.slots) (f : Nat → Int64) (ρ : Nat → Nat) (γ : Nat → Nat → Nat) (κ : Nat → Nat) (γ1 : Nat → Nat → Nat) (nx : Nat) (ct : Nat) (rr : Nat → Nat → Nat) (gg : Nat → Nat → Nat → Nat) (κ0 : Nat → Nat) (δ0 : Nat → Nat → Nat) (κ1 : Nat → Nat) (δ1 : Nat → Nat → Nat) (fl : Nat → Int32) (n : Nat) (lt : Nat → Nat) (lf : Nat → Nat) (tk : Nat → Int32) (bt : Nat → Int32) (bw : Int32) (rf : Nat) (φt : Nat → Nat) (φ : Nat → Nat) (kf : Nat → Nat) (tr1 : Nat → Nat) (ch1 : Nat → Nat) (sp : Nat) (ou : Nat) (dia : Nat → Nat → Nat) (hJ : LJ ρ n lt nx ct rr dia φ fl κ0 kf κ1) (hw : xW G A s.heap (jW Y xo h0 h1 hh hb2 sl a0 a1 sv tz az mo tx nw tr dy kp ik td ch ot f ρ γ κ γ1 nx ct rr gg κ0 δ0 κ1 δ1 fl n lt lf tk bt bw rf φt φ kf tr1 ch1 sp ou dia) H locs) (hl : lv_has ls 7 [(0, .ref b), (1, .ref xo), (2, .ref mo), (3, .ref ot), (4, .int (nI i))]) (K : LK p l e R s m args below meth c G Y A b i xo h0 h1 hh hb2 sl a0 a1 sv tz az mo tx nw tr dy kp ik td ch ot (cells + 1) (slots + 6) Q) : W p l e R s m args below meth c H locs cells slots Q (F0 m 2057 ls []) := by
  obtain ⟨hI, hn, hlt, hr, hdi, hdv, hf0, hf1⟩ := hJ
  have hw : xW G A s.heap [outS Y ot f, [(xo, .inr (4, [.ref h0, .ref h1, .ref hh, .ref sl, .ref sv, .ref tz, .ref az]))], aucW Y h0 ρ γ, aucW Y h1 κ γ1, hisW Y hh hb2 nx ct, ringW Y hb2 rr gg, [(sl, .inl (Y 4, 2, .inr (.inr (.inr (.inr (fun k => some (if k = 0 then a0 else a1)))))))], aucW Y a0 κ0 δ0, aucW Y a1 κ1 δ1, [(sv, .inl (Y 1, 2, .inl fl))], txtW Y tz lt n, asgW Y az lf tk bt bw, [(mo, .inr (5, [.int (nI rf), .ref tx, .int (nI n), .ref nw, .ref tr, .ref dy, .int (nI ct), .ref kp, .ref ik, .ref td, .ref ch, .int (nI sp), .int (nI ou)]))], [(tx, .inl (Y 0, 120, .inl (rowF lt)))], [(nw, .inl (Y 0, 140, .inl (rowF ρ)))], [(tr, .inl (Y 0, 140, .inl (rowF φt)))], [(dy, .inl (Y 0, 1960, .inl (rowF φ)))], [(kp, .inl (Y 0, 280, .inl (rowF kf)))], [(ik, .inl (Y 1, 2, .inl fl))], [(td, .inl (Y 0, 6, .inl (rowF tr1)))], [(ch, .inl (Y 0, 6, .inl (rowF ch1)))]] H locs := hw
  obtain ⟨c1, e1⟩ : ∃ z, xs (i + 1) = z := ⟨_, rfl⟩
  rcases rngZ c1 0 (1) (by decide) with hk1 | ⟨j1, rfl, g1, l1, u1⟩
  · refine case_restore E e1 hi (lt_restore_1 l G Y xo ot _ f _ _ (t_X5_restore l E.fl G Y xo h0 h1 hh sl sv tz az (c1) (ngT hk1)) rfl) (f_X6_restore l G Y mo rf tx n nw tr dy ct kp ik td ch sp ou ρ (c1) (hk1)) (by decide) (is := [0, 1]) (isM := [12, 14]) rfl (by decide) (by decide) hf hw hl ?_
    rintro _ _ ⟨rfl, rfl⟩
    refine ⟨rfl, ⟨_, rfl⟩, ?_⟩
    rintro _ _ ⟨rfl, rfl⟩
    exact ⟨⟨_, 1, _, _, _, _, _, _, _, _, _, _, _, _, rfl, rfl, rfl, by decide, fun z => absurd z (by decide)⟩, fun H locs ls hw hl => K _ ρ _ _ _ nx ct rr _ κ0 _ κ1 _ fl n lt _ _ _ _ _ _ φ kf _ _ _ _ dia ⟨hI, hn, hlt, hr, hdi, hdv, hf0, hf1⟩ _ _ _ hw hl⟩
  · obtain rfl | rfl : j1 = 0 ∨ j1 = 1 := by omega
    · rcases id hf0 with hz | ⟨hz, hIk, hkp⟩
      · refine case_restore E e1 hi (lt_restore_2 l G Y xo ot _ f _ _ (t_X5_restore_0 l E.fl G Y xo h0 h1 hh sl sv tz az fl (hz)) rfl) (f_X6_restore_0 l G Y mo rf tx n nw tr dy ct kp ik td ch sp ou ρ fl (hz)) (by decide) (is := [0, 1, 9]) (isM := [12, 14, 18]) rfl (by decide) (by decide) hf hw hl ?_
        rintro _ _ ⟨rfl, rfl⟩
        refine ⟨rfl, ⟨_, rfl⟩, ?_⟩
        rintro _ _ ⟨rfl, rfl⟩
        exact ⟨⟨_, 2, _, _, _, _, _, _, _, _, _, _, _, _, rfl, rfl, rfl, by decide, fun z => absurd z (by decide)⟩, fun H locs ls hw hl => K _ ρ _ _ _ nx ct rr _ κ0 _ κ1 _ fl n lt _ _ _ _ _ _ φ kf _ _ _ _ dia ⟨hI, hn, hlt, hr, hdi, hdv, hf0, hf1⟩ _ _ _ hw hl⟩
      · refine case_restore E e1 hi (lk_restore l G Y xo ot _ f _ _ (k_X5_restore_0 l G Y xo h0 h1 hh sl sv tz az hb2 nx ct a0 a1 fl κ0 δ0 κ1 δ1 ρ γ (hIk) (hz)) rfl) (k_X6_restore_0 l G Y mo rf tx n nw tr dy ct kp ik td ch sp ou ρ (κ0) kf fl (hkp) (hz)) (by decide) (is := [0, 1, 2, 4, 6, 7, 8, 9]) (isM := [12, 14, 17, 18]) rfl (by decide) (by decide) hf hw hl ?_
        rintro _ _ ⟨rfl, _, _, ⟨rfl, rfl⟩, rfl⟩
        refine ⟨rfl, ⟨_, rfl⟩, ?_⟩
        rintro _ _ ⟨rfl, rfl⟩
        exact ⟨⟨_, 0, _, _, _, _, _, _, _, _, _, _, _, _, rfl, rfl, rfl, by decide, fun _ => rfl⟩, fun H locs ls hw hl => K _ κ0 _ _ _ nx 0 rr _ κ0 _ κ1 _ fl n lt _ _ _ _ _ _ φ kf _ _ _ _ dia ⟨hIk, hn, hlt, ⟨hr.1, Nat.zero_le _, fun k hk => absurd hk (Nat.not_lt_zero _)⟩, fun k hk => absurd hk (Nat.not_lt_zero _), fun k hk => absurd hk (Nat.not_lt_zero _), hf0, hf1⟩ _ _ _ hw hl⟩
    · rcases id hf1 with hz | ⟨hz, hIk, hkp⟩
      · refine case_restore E e1 hi (lt_restore_2 l G Y xo ot _ f _ _ (t_X5_restore_1 l E.fl G Y xo h0 h1 hh sl sv tz az fl (hz)) rfl) (f_X6_restore_1 l G Y mo rf tx n nw tr dy ct kp ik td ch sp ou ρ fl (hz)) (by decide) (is := [0, 1, 9]) (isM := [12, 14, 18]) rfl (by decide) (by decide) hf hw hl ?_
        rintro _ _ ⟨rfl, rfl⟩
        refine ⟨rfl, ⟨_, rfl⟩, ?_⟩
        rintro _ _ ⟨rfl, rfl⟩
        exact ⟨⟨_, 2, _, _, _, _, _, _, _, _, _, _, _, _, rfl, rfl, rfl, by decide, fun z => absurd z (by decide)⟩, fun H locs ls hw hl => K _ ρ _ _ _ nx ct rr _ κ0 _ κ1 _ fl n lt _ _ _ _ _ _ φ kf _ _ _ _ dia ⟨hI, hn, hlt, hr, hdi, hdv, hf0, hf1⟩ _ _ _ hw hl⟩
      · refine case_restore E e1 hi (lk_restore l G Y xo ot _ f _ _ (k_X5_restore_1 l G Y xo h0 h1 hh sl sv tz az hb2 nx ct a0 a1 fl κ0 δ0 κ1 δ1 ρ γ (hIk) (hz)) rfl) (k_X6_restore_1 l G Y mo rf tx n nw tr dy ct kp ik td ch sp ou ρ (κ1) kf fl (hkp) (hz)) (by decide) (is := [0, 1, 2, 4, 6, 7, 8, 9]) (isM := [12, 14, 17, 18]) rfl (by decide) (by decide) hf hw hl ?_
        rintro _ _ ⟨rfl, _, _, ⟨rfl, rfl⟩, rfl⟩
        refine ⟨rfl, ⟨_, rfl⟩, ?_⟩
        rintro _ _ ⟨rfl, rfl⟩
        exact ⟨⟨_, 0, _, _, _, _, _, _, _, _, _, _, _, _, rfl, rfl, rfl, by decide, fun _ => rfl⟩, fun H locs ls hw hl => K _ κ1 _ _ _ nx 0 rr _ κ0 _ κ1 _ fl n lt _ _ _ _ _ _ φ kf _ _ _ _ dia ⟨hIk, hn, hlt, ⟨hr.1, Nat.zero_le _, fun k hk => absurd hk (Nat.not_lt_zero _)⟩, fun k hk => absurd hk (Nat.not_lt_zero _), fun k hk => absurd hk (Nat.not_lt_zero _), hf0, hf1⟩ _ _ _ hw hl⟩
set_option maxHeartbeats 4000000 in
theorem step_undo (E : LE p l R s m args c G Y A b L xs) (hi : i + 6 ≤ L) (hf : cells + 1 ≤ R.cells ∧ slots + 6 ≤ R.slots) (f : Nat → Int64) (ρ : Nat → Nat) (γ : Nat → Nat → Nat) (κ : Nat → Nat) (γ1 : Nat → Nat → Nat) (nx : Nat) (ct : Nat) (rr : Nat → Nat → Nat) (gg : Nat → Nat → Nat → Nat) (κ0 : Nat → Nat) (δ0 : Nat → Nat → Nat) (κ1 : Nat → Nat) (δ1 : Nat → Nat → Nat) (fl : Nat → Int32) (n : Nat) (lt : Nat → Nat) (lf : Nat → Nat) (tk : Nat → Int32) (bt : Nat → Int32) (bw : Int32) (rf : Nat) (φt : Nat → Nat) (φ : Nat → Nat) (kf : Nat → Nat) (tr1 : Nat → Nat) (ch1 : Nat → Nat) (sp : Nat) (ou : Nat) (dia : Nat → Nat → Nat) (hJ : LJ ρ n lt nx ct rr dia φ fl κ0 kf κ1) (hw : xW G A s.heap (jW Y xo h0 h1 hh hb2 sl a0 a1 sv tz az mo tx nw tr dy kp ik td ch ot f ρ γ κ γ1 nx ct rr gg κ0 δ0 κ1 δ1 fl n lt lf tk bt bw rf φt φ kf tr1 ch1 sp ou dia) H locs) (hl : lv_has ls 7 [(0, .ref b), (1, .ref xo), (2, .ref mo), (3, .ref ot), (4, .int (nI i))]) (K : LK p l e R s m args below meth c G Y A b i xo h0 h1 hh hb2 sl a0 a1 sv tz az mo tx nw tr dy kp ik td ch ot (cells + 1) (slots + 6) Q) : W p l e R s m args below meth c H locs cells slots Q (F0 m 1426 ls []) := by
  obtain ⟨hI, hn, hlt, hr, hdi, hdv, hf0, hf1⟩ := hJ
  have hw : xW G A s.heap [outS Y ot f, [(xo, .inr (4, [.ref h0, .ref h1, .ref hh, .ref sl, .ref sv, .ref tz, .ref az]))], aucW Y h0 ρ γ, aucW Y h1 κ γ1, hisW Y hh hb2 nx ct, ringW Y hb2 rr gg, [(sl, .inl (Y 4, 2, .inr (.inr (.inr (.inr (fun k => some (if k = 0 then a0 else a1)))))))], aucW Y a0 κ0 δ0, aucW Y a1 κ1 δ1, [(sv, .inl (Y 1, 2, .inl fl))], txtW Y tz lt n, asgW Y az lf tk bt bw, [(mo, .inr (5, [.int (nI rf), .ref tx, .int (nI n), .ref nw, .ref tr, .ref dy, .int (nI ct), .ref kp, .ref ik, .ref td, .ref ch, .int (nI sp), .int (nI ou)]))], [(tx, .inl (Y 0, 120, .inl (rowF lt)))], [(nw, .inl (Y 0, 140, .inl (rowF ρ)))], [(tr, .inl (Y 0, 140, .inl (rowF φt)))], [(dy, .inl (Y 0, 1960, .inl (rowF φ)))], [(kp, .inl (Y 0, 280, .inl (rowF kf)))], [(ik, .inl (Y 1, 2, .inl fl))], [(td, .inl (Y 0, 6, .inl (rowF tr1)))], [(ch, .inl (Y 0, 6, .inl (rowF ch1)))]] H locs := hw
  by_cases hct0 : ct = 0
  · refine case_undo E  hi (lt_undo_1 l G Y xo ot  f _ _ (t_X5_undo l E.fl G Y xo h0 h1 hh sl sv tz az hb2 nx ct (hct0)) rfl) (f_X6_undo l G Y mo rf tx n nw tr dy ct kp ik td ch sp ou (hct0)) (by decide) (is := [0, 1, 4]) (isM := [12]) rfl (by decide) (by decide) hf hw hl ?_
    rintro _ _ ⟨rfl, rfl⟩
    refine ⟨rfl, ⟨_, rfl⟩, ?_⟩
    rintro _ _ ⟨rfl, rfl⟩
    exact ⟨⟨_, 1, _, _, _, _, _, _, _, _, _, _, _, _, rfl, rfl, rfl, by decide, fun z => absurd z (by decide)⟩, fun H locs ls hw hl => K _ ρ _ _ _ nx ct rr _ κ0 _ κ1 _ fl n lt _ _ _ _ _ _ φ kf _ _ _ _ dia ⟨hI, hn, hlt, hr, hdi, hdv, hf0, hf1⟩ _ _ _ hw hl⟩
  · have hrb := ring_back hr (by omega)
    have hIr : Inv (rr (prv nx)) := by rw [hrb.2]; exact hdv _ (by omega)
    refine case_undo E  hi (lk_undo l G Y xo ot  f _ _ (k_X5_undo l G Y xo h0 h1 hh sl sv tz az hb2 nx ct rr gg ρ γ (hr.1) (hr.2.1) (by omega) (hIr)) rfl) (k_X6_undo l G Y mo rf tx n nw tr dy ct kp ik td ch sp ou ρ φ dia (hr.2.1) (hdi) (by omega)) (by decide) (is := [0, 1, 2, 4, 5]) (isM := [12, 14, 16]) rfl (by decide) (by decide) hf hw hl ?_
    rintro _ _ ⟨rfl, _, _, ⟨rfl, rfl⟩, rfl⟩
    refine ⟨rfl, ⟨_, rfl⟩, ?_⟩
    rintro _ _ ⟨rfl, rfl⟩
    exact ⟨⟨_, 0, _, _, _, _, _, _, _, _, _, _, _, _, rfl, rfl, rfl, by decide, fun _ => rfl⟩, fun H locs ls hw hl => K _ (rr (prv nx)) _ _ _ (prv nx) (ct - 1) rr _ κ0 _ κ1 _ fl n lt _ _ _ _ _ _ φ kf _ _ _ _ dia ⟨hIr, hn, hlt, hrb.1, fun k hk => hdi k (by omega), fun k hk => hdv k (by omega), hf0, hf1⟩ _ _ _ (by rw [← hrb.2] at hw; exact hw) hl⟩
end LAWS
