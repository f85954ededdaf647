/-! A small logic over the kit's rows: a world in segments, one list of words, contracts that say which segments come back. -/
abbrev ads (w : va_W) : List Nat := w.map Prod.fst
def tysOf (Y : Nat → Nat) : List (ClassId × FieldType) := [(Y 0, .int), (Y 1, .boolean), (Y 2, .char), (Y 3, .byte), (Y 4, .object RX1)]
abbrev xNest : List (String × Nat × MethodName × String) := [(RX5, 36, yX4_init, RX5), (RX5, 43, yX0_init, RX5), (RX1, 72, yX5_cell, RX5), (RX1, 121, yX5_quotient, RX5), (RX1, 95, yX5_noKind, RX5), (RX1, 68, yX5_outside, RX5), (RX3, 33, yX5_noKind, RX5)]
abbrev xStr : List (String × Nat × String × Nat) := [(RX4, 63, "sbvqwc", 200), (RX4, 97, "299", 201), (RX4, 99, "999", 202), (RX4, 101, "52999", 203), (RX4, 103, "529", 204), (RX4, 105, "5", 205), (RX4, 95, "", 206), (RX4, 85, "011", 207), (RX4, 87, "001", 208), (RX4, 89, "00000", 209), (RX4, 91, "000", 210), (RX4, 93, "0", 211),
  (RX5, 54, "no character code", 212), (RX5, 65, "the text is full", 213), (RX5, 79, "the text is not an auction", 214), (RX5, 111, "what is not 0 to 5", 215), (RX5, 300, "no such kind", 216), (RX5, 131, "what is not 0 to 3", 217), (RX5, 305, "no such bidder", 218), (RX5, 151, "what is not 0 to 4", 219), (RX5, 162, "no such package", 220), (RX5, 172, "no such setting", 221), (RX5, 309, "no such kind, bidder or package", 222), (RX5, 311, "an argument is out of its range", 223), (RX5, 313, "not allowed as the auction stands", 224), (RX5, 245, "no state is remembered", 225), (RX5, 266, "n is not 1 to 3", 226), (RX5, 270, "the script does not have 0 to 5 * n digits", 227), (RX5, 278, "m is not 1 to 99", 228), (RX5, 307, "no such save slot", 229), (RX5, 294, "nothing has been saved there", 230)]
def xLen : List Nat := [6, 3, 3, 5, 3, 1, 0, 3, 3, 5, 3, 1]
def xByt : List (List Int32) := [[115, 98, 118, 113, 119, 99], [50, 57, 57], [57, 57, 57], [53, 50, 57, 57, 57], [53, 50, 57], [53], [], [48, 49, 49], [48, 48, 49], [48, 48, 48, 48, 48], [48, 48, 48], [48]]
/-- what the tables say all along -/
def xK (G : va_G) (Y : Nat → Nat) (U : State) : Prop := va_K G vwCl (tysOf Y) U ∧ (∀ q ∈ xNest, va_Nw (.methodLinkNest q.1 q.2.1 q.2.2.1 q.2.2.2) U) ∧ (∀ q ∈ xStr, vk_R q.1 q.2.1 q.2.2.1 (Y q.2.2.2) U)
/-- cells that nothing here writes: statics and the String constants -/
def xZ (Y : Nat → Nat) (A : Nat → Prop) (U : State) (H : Heap) : Prop := vx_Zq Bundle.tN "UNASSIGNED_STACK" Bundle.steD A U H ∧ vx_Zq Bundle.tN "SUPPRESSED_SENTINEL" Bundle.listD A U H ∧ vk_S 12 xLen xByt (fun i => Y (200 + i)) (fun i => Y (300 + i)) A U H ∧ va_Z "java/lang/String" "COMPACT_STRINGS" "Z" (.int 1) A U H ∧ va_Zq "jdk/internal/util/Preconditions" "SIOOBE_FORMATTER" "Ljava/util/function/BiFunction;" A U H
theorem xK.warm {G : va_G} {Y : Nat → Nat} {s U : State} (hW : s.WarmedH U.vm) (h : xK G Y s) : xK G Y U :=
  ⟨va_K.moved hW.alike h.1, fun q hq => va_Nw.warmM hW (h.2.1 q hq), fun q hq => vk_R.warm hW (h.2.2 q hq)⟩
theorem xK.same {G : va_G} {Y : Nat → Nat} {u U : State} (hv : U.vm = u.vm) (h : xK G Y u) : xK G Y U :=
  ⟨va_K.moved (by rw [hv]; exact Vm.Alike.refl _) h.1, fun q hq => va_Nw.same (by rfl) hv.symm (h.2.1 q hq), fun q hq => vk_R.same hv (h.2.2 q hq)⟩
theorem xZ.moved {Y : Nat → Nat} {A : Nat → Prop} {u U : State} {H : Heap} (hvm : u.vm.Alike U.vm) (h : xZ Y A u H) : xZ Y A U H :=
  ⟨h.1.moved hvm, h.2.1.moved hvm, h.2.2.1.moved hvm, h.2.2.2.1.moved hvm, h.2.2.2.2.moved hvm⟩
theorem xZ.kept {Y : Nat → Nat} {A : Nat → Prop} {U : State} {H H1 : Heap} (h : xZ Y A U H) (hq : ∀ a : Nat, a < H.size → ¬ A a → H1[a]? = H[a]?) : xZ Y A U H1 :=
  ⟨h.1.kept hq, h.2.1.kept hq, h.2.2.1.kept hq, h.2.2.2.1.kept hq, h.2.2.2.2.kept hq⟩
theorem xZ.narrow {Y : Nat → Nat} {A B : Nat → Prop} {U : State} {H : Heap} (h : xZ Y A U H) (hAB : ∀ q, B q → A q) : xZ Y B U H :=
  ⟨h.1.narrow hAB, h.2.1.narrow hAB, h.2.2.1.narrow hAB, h.2.2.2.1.narrow hAB, h.2.2.2.2.narrow hAB⟩
/-! addresses -/
theorem xD_iff {A : Nat → Prop} {ws : va_W} : va_D A ws ↔ (ads ws).Nodup ∧ ∀ a ∈ ads ws, A a := by
  constructor
  · rintro ⟨h1, h2⟩
    refine ⟨?_, fun a ha => ?_⟩
    · rw [List.nodup_iff_pairwise_ne, List.pairwise_iff_getElem]
      intro i j hi hj hij e
      have hi' : i < ws.length := by simpa using hi
      have hj' : j < ws.length := by simpa using hj
      have := h1 i j ws[i] ws[j] (List.getElem?_eq_getElem hi') (List.getElem?_eq_getElem hj') (by simpa using e)
      omega
    · obtain ⟨q, hq, rfl⟩ := List.mem_map.mp ha
      obtain ⟨k, hk⟩ := List.getElem?_of_mem hq
      exact h2 k q hk
  · rintro ⟨h1, h2⟩
    refine ⟨fun i j p q hi hj e => ?_, fun k q hk => h2 _ (List.mem_map.mpr ⟨q, List.mem_of_getElem? hk, rfl⟩)⟩
    rw [List.nodup_iff_pairwise_ne, List.pairwise_iff_getElem] at h1
    obtain ⟨hi', ei⟩ := List.getElem?_eq_some_iff.mp hi
    obtain ⟨hj', ej⟩ := List.getElem?_eq_some_iff.mp hj
    rcases Nat.lt_trichotomy i j with h | h | h
    · exact (h1 i j (by simpa using hi') (by simpa using hj') h (by simp only [List.getElem_map, ei, ej]; exact e)).elim
    · exact h
    · exact (h1 j i (by simpa using hj') (by simpa using hi') h (by simp only [List.getElem_map, ei, ej]; exact e.symm)).elim
theorem xP_iff {G : va_G} {cl : List vw_C} {ws : va_W} {H : Heap} : va_P G cl ws H ↔ ∀ q ∈ ws, va_at G cl q H :=
  ⟨fun h q hq => by obtain ⟨k, hk⟩ := List.getElem?_of_mem hq; exact h k q hk, fun h k q hk => h q (List.mem_of_getElem? hk)⟩
theorem ads_flatten (segs : List va_W) : ads segs.flatten = (segs.map ads).flatten := by
  induction segs with
  | nil => rfl
  | cons a l ih => simp only [List.flatten_cons, List.map_cons, ads, List.map_append] at ih ⊢; rw [ih]
/-- the world at a place: its segments, apart, and nothing else changed since the start -/
def xW (G : va_G) (A : Nat → Prop) (H0 : Heap) (segs : List va_W) (H : Heap) (locs : List Loc) : Prop :=
  va_P G vwCl segs.flatten H ∧ va_D A segs.flatten ∧ va_S A H0 H locs ∧ ∀ q, H0.size ≤ q → A q
theorem xW.seg {G : va_G} {A : Nat → Prop} {H0 H : Heap} {segs : List va_W} {locs : List Loc} (h : xW G A H0 segs H locs) {i : Nat} {seg : va_W} (hs : segs[i]? = some seg) : va_P G vwCl seg H :=
  xP_iff.mpr fun q hq => xP_iff.mp h.1 q (List.mem_flatten.mpr ⟨seg, List.mem_of_getElem? hs, hq⟩)
/-- the same cells, cut otherwise -/
theorem xW.recut {G : va_G} {A : Nat → Prop} {H0 H : Heap} {segs segs' : List va_W} {locs : List Loc} (h : xW G A H0 segs H locs) (e : segs'.flatten = segs.flatten) : xW G A H0 segs' H locs := by
  unfold xW; rw [e]; exact h
theorem xW.perm {G : va_G} {A : Nat → Prop} {H0 H : Heap} {segs segs' : List va_W} {locs : List Loc} (h : xW G A H0 segs H locs) (e : segs'.flatten.Perm segs.flatten) : xW G A H0 segs' H locs := by
  obtain ⟨h1, h2, h3⟩ := h
  refine ⟨xP_iff.mpr fun q hq => xP_iff.mp h1 q (e.mem_iff.mp hq), xD_iff.mpr ?_, h3⟩
  obtain ⟨a, b⟩ := xD_iff.mp h2
  exact ⟨(e.map Prod.fst).nodup_iff.mpr a, fun q hq => b q ((e.map Prod.fst).mem_iff.mp hq)⟩
theorem set_ads {ws : va_W} {j a : Nat} {e e' : va_E} (h : ws[j]? = some (a, e)) : ads (ws.set j (a, e')) = ads ws := by
  obtain ⟨hj, ej⟩ := List.getElem?_eq_some_iff.mp h
  unfold ads
  rw [List.map_set]
  apply List.ext_getElem?
  intro k
  rw [List.getElem?_set]
  by_cases hk : j = k
  · subst hk
    simp [ej, hj]
  · simp [hk]
theorem set_segads {segs : List va_W} {i : Nat} {s s' : va_W} (h : segs[i]? = some s) (e : ads s' = ads s) : (segs.set i s').map ads = segs.map ads := by
  obtain ⟨hj, ej⟩ := List.getElem?_eq_some_iff.mp h
  rw [List.map_set]
  apply List.ext_getElem?
  intro k
  rw [List.getElem?_set]
  by_cases hk : i = k
  · subst hk
    simp [ej, hj, e]
  · simp [hk]
theorem xD_same {A : Nat → Prop} {segs segs' : List va_W} (h : va_D A segs.flatten) (e : segs'.map ads = segs.map ads) : va_D A segs'.flatten := by
  rw [xD_iff, ads_flatten] at h ⊢
  rw [e]
  exact h
/-- a cell is named by its address alone -/
theorem xD_uniq {A : Nat → Prop} {segs : List va_W} (h : va_D A segs.flatten) {i j i' j' : Nat} {s s' : va_W} {q q' : Nat × va_E} (h1 : segs[i]? = some s) (h2 : s[j]? = some q) (h3 : segs[i']? = some s') (h4 : s'[j']? = some q') (e : q.1 = q'.1) : i = i' ∧ j = j' := by
  rw [xD_iff, ads_flatten] at h
  have hn := h.1
  obtain ⟨hi, ei⟩ := List.getElem?_eq_some_iff.mp h1
  obtain ⟨hj, ej⟩ := List.getElem?_eq_some_iff.mp h2
  obtain ⟨hi', ei'⟩ := List.getElem?_eq_some_iff.mp h3
  obtain ⟨hj', ej'⟩ := List.getElem?_eq_some_iff.mp h4
  rw [List.nodup_iff_pairwise_ne, List.pairwise_flatten] at hn
  obtain ⟨n1, n2⟩ := hn
  have key : ∀ (i i' : Nat) (s s' : va_W) (q q' : Nat × va_E) (hi : i < segs.length) (hi' : i' < segs.length), segs[i] = s → segs[i'] = s' → q ∈ s → q' ∈ s' → i < i' → q.1 ≠ q'.1 := by
    intro i i' s s' q q' hi hi' e1 e2 m1 m2 hl
    rw [List.pairwise_iff_getElem] at n2
    refine n2 i i' (by simpa using hi) (by simpa using hi') hl q.1 ?_ q'.1 ?_
    · simp only [List.getElem_map, e1]; exact List.mem_map.mpr ⟨q, m1, rfl⟩
    · simp only [List.getElem_map, e2]; exact List.mem_map.mpr ⟨q', m2, rfl⟩
  have m1 : q ∈ s := List.mem_of_getElem? h2
  have m2 : q' ∈ s' := List.mem_of_getElem? h4
  have hii : i = i' := by
    rcases Nat.lt_trichotomy i i' with hl | hl | hl
    · exact absurd e (key i i' s s' q q' hi hi' ei ei' m1 m2 hl)
    · exact hl
    · exact absurd e.symm (key i' i s' s q' q hi' hi ei' ei m2 m1 hl)
  subst hii
  have hss : s = s' := ei.symm.trans ei'
  subst hss
  refine ⟨rfl, ?_⟩
  have n3 := n1 (ads s) (List.mem_map.mpr ⟨s, List.mem_of_getElem? h1, rfl⟩)
  rw [List.pairwise_iff_getElem] at n3
  rcases Nat.lt_trichotomy j j' with hl | hl | hl
  · exact (n3 j j' (by simpa using hj) (by simpa using hj') hl (by simp only [List.getElem_map, ej, ej']; exact e)).elim
  · exact hl
  · exact (n3 j' j (by simpa using hj') (by simpa using hj) hl (by simp only [List.getElem_map, ej, ej']; exact e.symm)).elim
/-- one cell is written -/
theorem xW.put {G : va_G} {A : Nat → Prop} {H0 H H1 : Heap} {segs : List va_W} {locs : List Loc} (h : xW G A H0 segs H locs) {i j a k : Nat} {seg : va_W} {e0 e : va_E} (hs : segs[i]? = some seg) (he : seg[j]? = some (a, e0)) (hat : va_at G vwCl (a, e) H1) (z : H1.size = H.size) (oq : ∀ q : Nat, q ≠ a → H1[q]? = H[q]?) : xW G A H0 (segs.set i (seg.set j (a, e))) H1 (locs ++ [⟨a, k⟩]) := by
  obtain ⟨h1, h2, h3, h4⟩ := h
  have hq : (a, e0) ∈ segs.flatten := List.mem_flatten.mpr ⟨seg, List.mem_of_getElem? hs, List.mem_of_getElem? he⟩
  have hA : A a := (xD_iff.mp h2).2 a (List.mem_map.mpr ⟨_, hq, rfl⟩)
  refine ⟨xP_iff.mpr ?_, xD_same h2 (set_segads hs (set_ads he)), h3.put z oq hA, h4⟩
  intro q hm
  obtain ⟨s1, hs1, hq1⟩ := List.mem_flatten.mp hm
  obtain ⟨i1, hi1⟩ := List.getElem?_of_mem hs1
  obtain ⟨j1, hj1⟩ := List.getElem?_of_mem hq1
  obtain ⟨hil, -⟩ := List.getElem?_eq_some_iff.mp hs
  obtain ⟨hjl, -⟩ := List.getElem?_eq_some_iff.mp he
  have old : ∀ (i1 j1 : Nat) (s1 : va_W), segs[i1]? = some s1 → s1[j1]? = some q → ¬ (i1 = i ∧ j1 = j) → va_at G vwCl q H1 := by
    intro i1 j1 s1 g1 g2 hne
    have hne2 : q.1 ≠ a := fun z => hne (xD_uniq h2 g1 g2 hs he z)
    exact (xP_iff.mp h1 q (List.mem_flatten.mpr ⟨s1, List.mem_of_getElem? g1, List.mem_of_getElem? g2⟩)).kept (oq q.1 hne2)
  by_cases hii : i = i1
  · subst hii
    rw [List.getElem?_set_self hil] at hi1
    cases hi1
    by_cases hjj : j = j1
    · subst hjj
      rw [List.getElem?_set_self hjl] at hj1
      cases hj1
      exact hat
    · rw [List.getElem?_set_ne hjj] at hj1
      exact old i j1 seg hs hj1 (fun z => hjj z.2.symm)
  · rw [List.getElem?_set_ne hii] at hi1
    exact old i1 j1 s1 hi1 hj1 (fun z => hii z.1.symm)
/-- arrays of numbers that agree within their length are one cell -/
theorem xAt_congr {G : va_G} {cl : List vw_C} {a : Nat} {cA : ClassId} {n : Nat} {f g : Nat → Int32} {H : Heap} (h : va_at G cl (a, .inl (cA, n, .inl f)) H) (e : ∀ j, j < n → g j = f j) : va_at G cl (a, .inl (cA, n, .inl g)) H := by
  have hc : vp_cell cA (n, .inl g) = vp_cell cA (n, .inl f) := by
    simp only [vp_cell, arrV]
    congr 1
    apply Array.ext
    · simp
    · intro j h1 h2
      have hj : j < n := by simpa using h1
      simp [e j hj]
  show H[a]? = some _
  rw [hc]
  exact h
/-- segments put in at places -/
def xPut (segs : List va_W) (is : List Nat) (sg : List va_W) : List va_W := (is.zip sg).foldl (fun acc q => acc.set q.1 q.2) segs
theorem xPut_len (segs : List va_W) (is : List Nat) (sg : List va_W) : (xPut segs is sg).length = segs.length := by
  unfold xPut
  induction is.zip sg generalizing segs with
  | nil => rfl
  | cons q l ih => simp only [List.foldl_cons]; rw [ih]; simp
theorem xPut_get : ∀ (is : List Nat) (sg segs : List va_W) (k : Nat) (s : va_W), (xPut segs is sg)[k]? = some s → (k ∉ is.take sg.length ∧ segs[k]? = some s) ∨ (∃ n : Nat, is[n]? = some k ∧ sg[n]? = some s) := by
  intro is
  induction is with
  | nil => intro sg segs k s h; exact Or.inl ⟨by simp, by simpa [xPut] using h⟩
  | cons i l ih =>
    intro sg segs k s h
    cases sg with
    | nil => exact Or.inl ⟨by simp, by simpa [xPut] using h⟩
    | cons g m =>
      have h2 : (xPut (segs.set i g) l m)[k]? = some s := by simpa [xPut] using h
      rcases ih m (segs.set i g) k s h2 with ⟨h3, h4⟩ | ⟨n, h3, h4⟩
      · by_cases hk : i = k
        · subst hk
          right
          have hl : i < segs.length := by
            have := (List.getElem?_eq_some_iff.mp h4).1
            simpa using this
          rw [List.getElem?_set_self hl] at h4
          exact ⟨0, rfl, by simpa using h4⟩
        · rw [List.getElem?_set_ne hk] at h4
          exact Or.inl ⟨by simp only [List.length_cons, List.take_succ_cons, List.mem_cons, not_or]; exact ⟨fun z => hk z.symm, h3⟩, h4⟩
      · exact Or.inr ⟨n + 1, by simpa using h3, by simpa using h4⟩
theorem xPut_ads {segs : List va_W} : ∀ {is : List Nat} {sg sc : List va_W}, is.map (fun i => segs[i]?) = sc.map some → va_nd is = true → sg.map ads = sc.map ads → (xPut segs is sg).map ads = segs.map ads := by
  intro is
  induction is generalizing segs with
  | nil => intro sg sc _ _ _; simp [xPut]
  | cons i l ih =>
    intro sg sc h hn e
    cases sc with
    | nil => simp at h
    | cons c cs =>
      cases sg with
      | nil => simp at e
      | cons g gs =>
        simp only [List.map_cons, List.cons.injEq] at h e
        simp only [va_nd, Bool.and_eq_true, decide_eq_true_eq] at hn
        have h5 : (segs.set i g).map ads = segs.map ads := set_segads h.1 e.1
        have h6 : l.map (fun j => (segs.set i g)[j]?) = cs.map some := by
          rw [← h.2]
          apply List.map_congr_left
          intro j hj
          have : i ≠ j := fun z => hn.1 (by rw [z]; exact hj)
          rw [List.getElem?_set_ne this]
        have h7 := ih h6 hn.2 e.2
        show (xPut (segs.set i g) l gs).map ads = _
        rw [h7, h5]
theorem sel_len {segs sc : List va_W} {is : List Nat} (h : is.map (fun i => segs[i]?) = sc.map some) : is.length = sc.length := by
  have := congrArg List.length h
  simpa using this
theorem sel_at {segs sc : List va_W} {is : List Nat} (h : is.map (fun i => segs[i]?) = sc.map some) {n i : Nat} (hn : is[n]? = some i) : ∃ c, sc[n]? = some c ∧ segs[i]? = some c := by
  have h1 : (is.map (fun i => segs[i]?))[n]? = (sc.map some)[n]? := by rw [h]
  rw [List.getElem?_map, List.getElem?_map, hn] at h1
  cases hc : sc[n]? with
  | none => rw [hc] at h1; cases h1
  | some c => rw [hc] at h1; exact ⟨c, rfl, Option.some.inj h1⟩
theorem sel_of {segs sc : List va_W} {is : List Nat} (h : is.map (fun i => segs[i]?) = sc.map some) {n : Nat} {c : va_W} (hn : sc[n]? = some c) : ∃ i, is[n]? = some i ∧ segs[i]? = some c := by
  have h1 : (is.map (fun i => segs[i]?))[n]? = (sc.map some)[n]? := by rw [h]
  rw [List.getElem?_map, List.getElem?_map, hn] at h1
  cases hc : is[n]? with
  | none => rw [hc] at h1; cases h1
  | some i => rw [hc] at h1; exact ⟨i, rfl, Option.some.inj h1⟩
/-- the callee's part of a world -/
theorem xW.part {G : va_G} {A : Nat → Prop} {H0 H : Heap} {segs sc : List va_W} {locs : List Loc} (h : xW G A H0 segs H locs) {is : List Nat} (hs : is.map (fun i => segs[i]?) = sc.map some) (hn : va_nd is = true) : va_P G vwCl sc.flatten H ∧ va_D A sc.flatten ∧ ∀ q, va_A sc.flatten H.size q → A q := by
  obtain ⟨h1, h2, h3, h4⟩ := h
  have hm : ∀ q ∈ sc.flatten, q ∈ segs.flatten := by
    intro q hq
    obtain ⟨c, hc, hqc⟩ := List.mem_flatten.mp hq
    obtain ⟨n, hn⟩ := List.getElem?_of_mem hc
    obtain ⟨i, -, hi⟩ := sel_of hs hn
    exact List.mem_flatten.mpr ⟨c, List.mem_of_getElem? hi, hqc⟩
  have hDc : va_D A sc.flatten := by
    rw [xD_iff, ads_flatten]
    refine ⟨?_, fun a ha => ?_⟩
    · rw [List.nodup_iff_pairwise_ne, List.pairwise_flatten]
      have hd := xD_iff.mp h2
      rw [ads_flatten, List.nodup_iff_pairwise_ne, List.pairwise_flatten] at hd
      refine ⟨fun l hl => ?_, ?_⟩
      · obtain ⟨c, hc, rfl⟩ := List.mem_map.mp hl
        obtain ⟨n, hn⟩ := List.getElem?_of_mem hc
        obtain ⟨i, -, hi⟩ := sel_of hs hn
        exact hd.1.1 _ (List.mem_map.mpr ⟨c, List.mem_of_getElem? hi, rfl⟩)
      · rw [List.pairwise_iff_getElem]
        intro x y hx hy hxy a ha b hb e
        have hx' : x < sc.length := by simpa using hx
        have hy' : y < sc.length := by simpa using hy
        obtain ⟨ix, hix, hsx⟩ := sel_of hs (List.getElem?_eq_getElem hx')
        obtain ⟨iy, hiy, hsy⟩ := sel_of hs (List.getElem?_eq_getElem hy')
        simp only [List.getElem_map] at ha hb
        obtain ⟨qa, hqa, rfl⟩ := List.mem_map.mp ha
        obtain ⟨qb, hqb, rfl⟩ := List.mem_map.mp hb
        obtain ⟨ja, hja⟩ := List.getElem?_of_mem hqa
        obtain ⟨jb, hjb⟩ := List.getElem?_of_mem hqb
        have hij := (xD_uniq h2 hsx hja hsy hjb e).1
        subst hij
        have := va_nd_inj is hn x y ix hix hiy
        omega
    · rw [← ads_flatten] at ha
      obtain ⟨q, hq, rfl⟩ := List.mem_map.mp ha
      exact (xD_iff.mp h2).2 _ (List.mem_map.mpr ⟨q, hm q hq, rfl⟩)
  refine ⟨xP_iff.mpr fun q hq => xP_iff.mp h1 q (hm q hq), hDc, ?_⟩
  intro q hq
  rcases hq with ⟨k, e, hk⟩ | hq
  · exact (xD_iff.mp hDc).2 q (List.mem_map.mpr ⟨(q, e), List.mem_of_getElem? hk, rfl⟩)
  · exact h4 q (Nat.le_trans h3.1 hq)
/-- behind a call -/
theorem xW.back {G : va_G} {A : Nat → Prop} {H0 H H1 : Heap} {segs sc sg : List va_W} {locs locs1 : List Loc} (h : xW G A H0 segs H locs) {is : List Nat} (hs : is.map (fun i => segs[i]?) = sc.map some) (hn : va_nd is = true) (e : sg.map ads = sc.map ads) (hP : va_P G vwCl sg.flatten H1)
    (hk : ∀ q : Nat, q < H.size → ¬ va_A sc.flatten H.size q → H1[q]? = H[q]?) (hS : va_S A H0 H1 locs1) : xW G A H0 (xPut segs is sg) H1 locs1 := by
  obtain ⟨h1, h2, h3, h4⟩ := h
  refine ⟨xP_iff.mpr ?_, xD_same h2 (xPut_ads hs hn e), hS, h4⟩
  intro q hq
  obtain ⟨s1, hs1, hq1⟩ := List.mem_flatten.mp hq
  obtain ⟨k, hk1⟩ := List.getElem?_of_mem hs1
  rcases xPut_get is sg segs k s1 hk1 with ⟨g1, g2⟩ | ⟨n, g1, g2⟩
  · have hqs : q ∈ segs.flatten := List.mem_flatten.mpr ⟨s1, List.mem_of_getElem? g2, hq1⟩
    have hat := xP_iff.mp h1 q hqs
    refine hat.kept (hk q.1 hat.lt ?_)
    rintro (⟨k2, e2, hk2⟩ | hk2)
    · obtain ⟨c, hc, hqc⟩ := List.mem_flatten.mp (List.mem_of_getElem? hk2)
      obtain ⟨n, hn2⟩ := List.getElem?_of_mem hc
      obtain ⟨i, hi1, hi2⟩ := sel_of hs hn2
      obtain ⟨j1, hj1⟩ := List.getElem?_of_mem hq1
      obtain ⟨j2, hj2⟩ := List.getElem?_of_mem hqc
      have hki := (xD_uniq h2 g2 hj1 hi2 hj2 rfl).1
      subst hki
      apply g1
      have hl : sg.length = is.length := by
        have := congrArg List.length e
        rw [sel_len hs]
        simpa using this
      rw [hl, List.take_length]
      exact List.mem_of_getElem? hi1
    · have := hat.lt
      omega
  · exact xP_iff.mp hP q (List.mem_flatten.mpr ⟨s1, List.mem_of_getElem? g2, hq1⟩)
