/-! an auction's cells after writes, as a row again -/
theorem xW.recell {G : va_G} {A : Nat → Prop} {H0 H : Heap} {segs : List va_W} {locs : List Loc} (h : xW G A H0 segs H locs) {i : Nat} {w w' : va_W} (hs : segs[i]? = some w) (he : ads w' = ads w) (hc : ∀ q ∈ w', va_at G vwCl q H) : xW G A H0 (segs.set i w') H locs := by
  obtain ⟨h1, h2, h3⟩ := h
  refine ⟨xP_iff.mpr ?_, xD_same h2 (set_segads hs he), h3⟩
  intro q hq
  obtain ⟨s1, hs1, hq1⟩ := List.mem_flatten.mp hq
  obtain ⟨k, hk⟩ := List.getElem?_of_mem hs1
  have hl := (List.getElem?_eq_some_iff.mp hs).1
  by_cases hik : i = k
  · subst hik
    rw [List.getElem?_set_self hl] at hk
    cases hk
    exact hc q hq1
  · rw [List.getElem?_set_ne hik] at hk
    exact xP_iff.mp h1 q (List.mem_flatten.mpr ⟨s1, List.mem_of_getElem? hk, hq1⟩)
theorem auc_fold {G : va_G} {Y : Nat → Nat} {A : Nat → Prop} {H0 H : Heap} {segs : List va_W} {locs : List Loc} {h i : Nat} {ρ' : Nat → Nat} {f0 f1 f2 f3 f4 f5 f6 f7 f8 f9 : Nat → Nat} {n0 r0 o0 k0 s0 : Nat} (hw : xW G A H0 segs H locs)
    (hs : segs[i]? = some (aucR Y h f0 f1 f2 f3 f4 f5 f6 f7 f8 f9 n0 r0 o0 k0 s0))
    (e4 : n0 = ρ' 4) (e0 : r0 = ρ' 0) (e1 : o0 = ρ' 1) (e2 : k0 = ρ' 2) (e3 : s0 = ρ' 3)
    (g0 : ∀ k, k < 3 → f0 k = ρ' (5 + k)) (g1 : ∀ k, k < 3 → f1 k = ρ' (8 + k)) (g2 : ∀ k, k < 3 → f2 k = ρ' (11 + k))
    (g3 : ∀ b, b < ρ' 4 → f3 b = ρ' (14 + 21 * b)) (g4 : ∀ b, b < ρ' 4 → f4 b = ρ' (15 + 21 * b)) (g5 : ∀ b, b < ρ' 4 → f5 b = ρ' (22 + 21 * b))
    (g6 : ∀ b k, b < ρ' 4 → k < 3 → f6 (3 * b + k) = ρ' (16 + 21 * b + k)) (g7 : ∀ b k, b < ρ' 4 → k < 3 → f7 (3 * b + k) = ρ' (19 + 21 * b + k))
    (g8 : ∀ b i k, b < ρ' 4 → i < ρ' (22 + 21 * b) → i < 3 → k < 3 → f8 (9 * b + 3 * i + k) = ρ' (23 + 21 * b + 4 * i + k)) (g9 : ∀ b i, b < ρ' 4 → i < ρ' (22 + 21 * b) → i < 3 → f9 (3 * b + i) = ρ' (26 + 21 * b + 4 * i)) :
    ∃ γ' : Nat → Nat → Nat, xW G A H0 (segs.set i (aucW Y h ρ' γ')) H locs := by
  subst e4 e0 e1 e2 e3
  refine ⟨fun i => if i = 3 then f3 else if i = 4 then f4 else if i = 5 then f5 else if i = 6 then f6 else if i = 7 then f7 else if i = 8 then f8 else f9, ?_⟩
  generalize hγ : (fun i => if i = 3 then f3 else if i = 4 then f4 else if i = 5 then f5 else if i = 6 then f6 else if i = 7 then f7 else if i = 8 then f8 else f9) = γ'
  have h3 : rgtF ρ' γ' = f3 := by
    funext b; simp only [rgtF]; split
    · exact (g3 b ‹_›).symm
    · rw [← hγ]; rfl
  have h4 : capF ρ' γ' = f4 := by
    funext b; simp only [capF]; split
    · exact (g4 b ‹_›).symm
    · rw [← hγ]; rfl
  have h5 : pckF ρ' γ' = f5 := by
    funext b; simp only [pckF]; split
    · exact (g5 b ‹_›).symm
    · rw [← hγ]; rfl
  have h6 : valF ρ' γ' = f6 := by
    funext c; simp only [valF]; split
    · rw [← g6 (c / 3) (c % 3) ‹_› (Nat.mod_lt _ (by decide))]; congr 1; omega
    · rw [← hγ]; rfl
  have h7 : demF ρ' γ' = f7 := by
    funext c; simp only [demF]; split
    · rw [← g7 (c / 3) (c % 3) ‹_› (Nat.mod_lt _ (by decide))]; congr 1; omega
    · rw [← hγ]; rfl
  have h8 : lotF ρ' γ' = f8 := by
    funext c; simp only [lotF]; split
    · rename_i hh
      rw [← g8 (c / 9) (c / 3 % 3) (c % 3) hh.1 hh.2 (Nat.mod_lt _ (by decide)) (Nat.mod_lt _ (by decide))]; congr 1; omega
    · rw [← hγ]; rfl
  have h9 : worF ρ' γ' = f9 := by
    funext c; simp only [worF]; split
    · rename_i hh
      rw [← g9 (c / 3) (c % 3) hh.1 hh.2 (Nat.mod_lt _ (by decide))]; congr 1; omega
    · rw [← hγ]; rfl
  have hP := xP_iff.mp (hw.seg hs)
  unfold aucR at hP
  refine hw.recell hs rfl ?_
  unfold aucW aucR
  rw [h3, h4, h5, h6, h7, h8, h9]
  intro q hq
  simp only [List.mem_cons, List.not_mem_nil, or_false] at hq
  rcases hq with rfl | rfl | rfl | rfl | rfl | rfl | rfl | rfl | rfl | rfl | rfl
  · exact hP _ (by simp)
  · exact xAt_congr (hP (h + 1, .inl (Y 0, 3, .inl (rowF f0))) (by simp)) (fun j hj => congrArg nI (g0 j hj).symm)
  · exact xAt_congr (hP (h + 2, .inl (Y 0, 3, .inl (rowF f1))) (by simp)) (fun j hj => congrArg nI (g1 j hj).symm)
  · exact xAt_congr (hP (h + 3, .inl (Y 0, 3, .inl (rowF f2))) (by simp)) (fun j hj => congrArg nI (g2 j hj).symm)
  · exact hP _ (by simp)
  · exact hP _ (by simp)
  · exact hP _ (by simp)
  · exact hP _ (by simp)
  · exact hP _ (by simp)
  · exact hP _ (by simp)
  · exact hP _ (by simp)
theorem row_fold {G : va_G} {Y : Nat → Nat} {A : Nat → Prop} {H0 H : Heap} {segs : List va_W} {locs : List Loc} {a i N : Nat} {f f' : Nat → Int32} (hw : xW G A H0 segs H locs)
    (hs : segs[i]? = some [(a, .inl (Y 0, N, .inl f))]) (g : ∀ k, k < N → f' k = f k) : xW G A H0 (segs.set i [(a, .inl (Y 0, N, .inl f'))]) H locs := by
  have hP := xP_iff.mp (hw.seg hs)
  refine hw.recell hs rfl ?_
  intro q hq
  simp only [List.mem_cons, List.not_mem_nil, or_false] at hq
  subst hq
  exact xAt_congr (hP (a, .inl (Y 0, N, .inl f)) (by simp)) g
theorem x_max {p : Program} {l : Launch} {e : Env} {R : Room} {s : State} {m : MethodId} {args : Array Value} {below : List Frame} {meth : Method} {c : Code} {H : Heap} {locs : List Loc} {cells slots : Nat} {Q : State → Prop} {cc : ByteArray} {pc idx nL : Nat} {ls : Array Slot} {rest : List Value} {own : String}
    (M : XM p m c cc nL s args own) (hl : ls.size = nL) (hlink : Cond.methodLink own idx Lib.Math.max.name ∈ wB) (hstat : Cond.static Lib.Math.max.name ∈ wB) (hini : Cond.initialized "java/lang/Math" ∈ wB) (hcode : Cond.code Lib.Math.max.name Lib.Math.max.code 2 (some .int) ∈ wB) (hR : 1 ≤ R.frames ∧ 21 ≤ R.locals) (hf : cells ≤ R.cells ∧ slots ≤ R.slots) (hrest : (rest.map fun v => v.category).sum ≤ 8) {a b : Nat} (ha : a < 2 ^ 31) (hb : b < 2 ^ 31) (hdg : decode cc pc = .ok (.invokestatic idx, 3))
    (kk : W p l e R s m args below meth c H locs cells slots Q (F0 m (pc + 3) ls (.int (nI (max a b)) :: rest))) : W p l e R s m args below meth c H locs cells slots Q (F0 m pc ls (.int (nI b) :: .int (nI a) :: rest)) := by
  obtain ⟨hx, hbb, hml, hown, hts⟩ := M
  refine va_mmax hx hbb (hml.trans hl.symm) hown (hts _ hlink) (hts _ hstat) (hts _ hini) (hts _ hcode) hR.1 (by omega) hf.1 hf.2 hdg ?_
  have h : (if nI a < nI b then nI b else nI a) = nI (max a b) := by
    by_cases h : a < b
    · rw [if_pos ((nI_ltI ha hb).mpr h), Nat.max_eq_right (Nat.le_of_lt h)]
    · rw [if_neg (fun z => h ((nI_ltI ha hb).mp z)), Nat.max_eq_left (Nat.not_lt.mp h)]
  first
    | (rw [h]; exact kk)
    | (have h2 : ∀ z : Int32, z = nI (max a b) → W p l e R s m args below meth c H locs cells slots Q (F0 m (pc + 3) ls (.int z :: rest)) := fun z hz => by rw [hz]; exact kk
       refine h2 _ ?_
       simp only [← h]
       split <;> split <;> first | rfl | (simp only [nI_ltI ha hb, nI_leI hb ha, nI_leI ha hb, nI_ltI hb ha] at *; first | (congr 1; omega) | omega))
/-! what changes keep -/
section KEEP
variable {ρ : Nat → Nat} {j k i b u v a d n : Nat}
theorem hi_sup (hk : k < 3) : hiB (5 + k) = 9 := k3 (P := fun k => hiB (5 + k) = 9) hk rfl rfl rfl
theorem hi_pts (hk : k < 3) : hiB (8 + k) = 9 := k3 (P := fun k => hiB (8 + k) = 9) hk rfl rfl rfl
theorem hi_pri (hk : k < 3) : hiB (11 + k) = 99999 := k3 (P := fun k => hiB (11 + k) = 99999) hk rfl rfl rfl
theorem lo_a (hk : k < 9) : loB (5 + k) = 1 := by
  rcases (show k = 0 ∨ k = 1 ∨ k = 2 ∨ k = 3 ∨ k = 4 ∨ k = 5 ∨ k = 6 ∨ k = 7 ∨ k = 8 by omega) with rfl | rfl | rfl | rfl | rfl | rfl | rfl | rfl | rfl <;> rfl
theorem hi_b {q o : Nat} (h : 14 ≤ q) (e : (q - 14) % 21 = o) : hiB q = hiC o := by unfold hiB; rw [if_neg (by omega), e]
theorem lo_b {q : Nat} (h : 14 ≤ q) (e : (q - 14) % 21 ≠ 1) : loB q = 0 := by unfold loB; rw [if_neg (by omega), if_neg e]
theorem lo_c {q : Nat} (h : 14 ≤ q) (e : (q - 14) % 21 = 1) : loB q = 1 := by unfold loB; rw [if_neg (by omega), if_pos e]
theorem Inv_offer (h : Inv ρ) (hk : k < 3) (hu : 1 ≤ u ∧ u ≤ 9) (hv : 1 ≤ v ∧ v ≤ 9) : Inv (mOffer ρ k u v) := by
  have h1 : Inv (setN ρ (5 + k) u) := h.set (by omega) (fun _ _ => by rw [hi_sup hk]; exact hu.2) (by rw [lo_a (by omega)]; exact hu.1) (fun b _ _ => by omega)
  exact h1.set (by omega) (fun _ _ => by rw [hi_pts hk]; exact hv.2) (by rw [show 8 + k = 5 + (3 + k) by omega, lo_a (by omega)]; exact hv.1) (fun b _ _ => by omega)
theorem Inv_pri (h : Inv ρ) (hk : k < 3) (hv : 1 ≤ v ∧ v ≤ 99999) : Inv (mPri ρ k v) :=
  h.set (by omega) (fun _ _ => by rw [hi_pri hk]; exact hv.2) (by rw [show 11 + k = 5 + (6 + k) by omega, lo_a (by omega)]; exact hv.1) (fun b _ _ => by omega)
theorem Inv_set {w : Int} (h : Inv ρ) (h0 : w = 0 → 50 ≤ v ∧ v ≤ 100) (h1 : w ≠ 0 → 1 ≤ v ∧ v ≤ 50) : Inv (mSet ρ w v) := by
  unfold mSet
  split
  · exact h.set (by decide) (fun _ _ => (h0 ‹_›).2) (h0 ‹_›).1 (fun b _ _ => by omega)
  · exact h.set (by decide) (fun _ _ => (h1 ‹_›).2) (h1 ‹_›).1 (fun b _ _ => by omega)
theorem Inv_val (h : Inv ρ) (hj : j < ρ 4) (hk : k < 3) (hv : v ≤ 99999) : Inv (mVal ρ j k v) :=
  h.set (by omega) (fun _ _ => by rw [hi_b (o := 2 + k) (by omega) (by omega)]; exact k3 (P := fun k => v ≤ hiC (2 + k)) hk hv hv hv) (by rw [lo_b (by omega) (by omega)]; exact Nat.zero_le _) (fun b _ _ => by omega)
theorem Inv_dem1 (h : Inv ρ) (hj : j < ρ 4) (hk : k < 3) (hv : v ≤ 9) : Inv (setN ρ (19 + 21 * j + k) v) :=
  h.set (by omega) (fun _ _ => by rw [hi_b (o := 5 + k) (by omega) (by omega)]; exact k3 (P := fun k => v ≤ hiC (5 + k)) hk hv hv hv) (by rw [lo_b (by omega) (by omega)]; exact Nat.zero_le _) (fun b _ _ => by omega)
theorem Inv_ask (h : Inv ρ) (hj : j < ρ 4) (hk : k < 3) (hv : n ≤ 9) : Inv (mAsk ρ j k n) := Inv_dem1 h hj hk hv
theorem Inv_dem (h : Inv ρ) (hj : j < ρ 4) (ha : a ≤ 9) (hb : b ≤ 9) (hd : d ≤ 9) : Inv (mDem ρ j a b d) := by
  have h1 := Inv_dem1 h hj (k := 0) (by decide) ha
  have h2 := Inv_dem1 h1 (j := j) (by rw [setN_n (by omega)]; exact hj) (k := 1) (by decide) hb
  have h3 := Inv_dem1 h2 (j := j) (by rw [setN_n (by omega), setN_n (by omega)]; exact hj) (k := 2) (by decide) hd
  unfold mDem
  rw [show 20 + 21 * j = 19 + 21 * j + 1 by omega, show 21 + 21 * j = 19 + 21 * j + 2 by omega]
  exact h3
theorem Inv_rgt (h : Inv ρ) (hj : j < ρ 4) (hv : v ≤ 99) : Inv (setN ρ (14 + 21 * j) v) :=
  h.set (by omega) (fun _ _ => by rw [hi_b (o := 0) (by omega) (by omega)]; exact hv) (by rw [lo_b (by omega) (by omega)]; exact Nat.zero_le _) (fun b _ _ => by omega)
theorem Inv_raise (h : Inv ρ) (hk : k < 3) : Inv (mRaise ρ k) :=
  Inv_pri h hk ⟨by have := (h.pri (q := 11 + k) hk rfl).1; omega, by omega⟩
theorem Inv_over (h : Inv ρ) (hv : v ≤ 1) : Inv (setN ρ 1 v) := h.set (by decide) (fun _ _ => hv) (Nat.zero_le _) (fun b _ _ => by omega)
theorem Inv_rnd (h : Inv ρ) : Inv (setN ρ 0 v) := h.set (by decide) (fun h0 _ => absurd h0 (by decide)) (Nat.zero_le _) (fun b _ _ => by omega)
theorem Inv_lot1 (h : Inv ρ) (hj : j < ρ 4) (hi : i < 3) (hk : k < 3) (hv : v ≤ 9) : Inv (setN ρ (23 + 21 * j + 4 * i + k) v) :=
  h.set (by omega) (fun _ _ => by
    rw [hi_b (o := 9 + 4 * i + k) (by omega) (by omega)]
    refine k3 (P := fun i => v ≤ hiC (9 + 4 * i + k)) hi ?_ ?_ ?_ <;> exact k3 (P := fun k => v ≤ hiC (9 + 4 * _ + k)) hk hv hv hv) (by rw [lo_b (by omega) (by rw [show (23 + 21 * j + 4 * i + k - 14) % 21 = 9 + 4 * i + k by omega]; omega)]; exact Nat.zero_le _) (fun b _ _ => by omega)
theorem Inv_wor1 (h : Inv ρ) (hj : j < ρ 4) (hi : i < 3) (hv : v ≤ 999999) : Inv (setN ρ (26 + 21 * j + 4 * i) v) :=
  h.set (by omega) (fun _ _ => by rw [hi_b (o := 12 + 4 * i) (by omega) (by omega)]; exact k3 (P := fun i => v ≤ hiC (12 + 4 * i)) hi hv hv hv) (by rw [lo_b (by omega) (by omega)]; exact Nat.zero_le _) (fun b _ _ => by omega)
theorem Inv_pck1 (h : Inv ρ) (hj : j < ρ 4) (hv : v ≤ 3) : Inv (setN ρ (22 + 21 * j) v) :=
  h.set (by omega) (fun _ _ => by rw [hi_b (o := 8) (by omega) (by omega)]; exact hv) (by rw [lo_b (by omega) (by omega)]; exact Nat.zero_le _) (fun b _ _ => by omega)
theorem Inv_add (h : Inv ρ) (hj : j < ρ 4) (hp : ρ (22 + 21 * j) < 3) (ha : a ≤ 9) (hb : b ≤ 9) (hd : d ≤ 9) (hv : v ≤ 999999) : Inv (mAdd ρ j a b d v) := by
  have h0 := h.n6
  have h1 := Inv_lot1 h hj hp (k := 0) (by decide) ha
  have h2 := Inv_lot1 h1 (j := j) (by rw [setN_n (by omega)]; exact hj) hp (k := 1) (by decide) hb
  have h3 := Inv_lot1 h2 (j := j) (by rw [setN_n (by omega), setN_n (by omega)]; exact hj) hp (k := 2) (by decide) hd
  have h4 := Inv_wor1 h3 (j := j) (by rw [setN_n (by omega), setN_n (by omega), setN_n (by omega)]; exact hj) hp hv
  have h5 := Inv_pck1 h4 (j := j) (v := ρ (22 + 21 * j) + 1) (by rw [setN_n (by omega), setN_n (by omega), setN_n (by omega), setN_n (by omega)]; exact hj) (by omega)
  unfold mAdd
  rw [show 24 + 21 * j + 4 * ρ (22 + 21 * j) = 23 + 21 * j + 4 * ρ (22 + 21 * j) + 1 by omega, show 25 + 21 * j + 4 * ρ (22 + 21 * j) = 23 + 21 * j + 4 * ρ (22 + 21 * j) + 2 by omega]
  exact h5
theorem Inv_join (h : Inv ρ) (hn : ρ 4 < 6) (hu : u ≤ 99) (hv : 1 ≤ v ∧ v ≤ 9) : Inv (mJoin ρ u v) := by
  have e : ∀ c, mJoin ρ u v c = if c = 4 then ρ 4 + 1 else if c = 15 + 21 * ρ 4 then v else if c = 14 + 21 * ρ 4 then u else ρ c := fun c => by simp only [mJoin, setN]
  have e4 : mJoin ρ u v 4 = ρ 4 + 1 := by rw [e]; rfl
  refine ⟨fun c h1 h2 => ?_, fun c h1 => ?_, fun b hb => ?_, fun b h1 h2 c h3 h5 => ?_⟩
  · rw [e]
    by_cases c4 : c = 4
    · rw [if_pos c4, c4]; show ρ 4 + 1 ≤ 6; omega
    · rw [if_neg c4]
      by_cases c5 : c = 15 + 21 * ρ 4
      · rw [if_pos c5, hi_b (o := 1) (by omega) (by omega)]; exact hv.2
      · rw [if_neg c5]
        by_cases c6 : c = 14 + 21 * ρ 4
        · rw [if_pos c6, hi_b (o := 0) (by omega) (by omega)]; exact hu
        · rw [if_neg c6]; exact h.1 c h1 h2
  · rw [e]
    by_cases c4 : c = 4
    · rw [if_pos c4, c4]; exact Nat.zero_le _
    · rw [if_neg c4, if_neg (by omega), if_neg (by omega)]; exact h.2.1 c h1
  · rw [e4] at hb
    rw [e, if_neg (by omega)]
    by_cases c5 : 15 + 21 * b = 15 + 21 * ρ 4
    · rw [if_pos c5]; exact hv.1
    · rw [if_neg c5, if_neg (by omega)]; exact h.2.2.1 b (by omega)
  · rw [e4] at h1
    rw [e, if_neg (by omega), if_neg (by omega), if_neg (by omega)]
    exact h.2.2.2 b (by omega) h2 c h3 h5
theorem Inv_drop (h : Inv ρ) (hj : j < ρ 4) (hi : 1 ≤ i) (hp : i ≤ ρ (22 + 21 * j)) : Inv (mDrop ρ j i) := by
  have h6 := h.n6
  have h3 := h.pck hj rfl
  have e4 : mDrop ρ j i 4 = ρ 4 := by unfold mDrop; rw [if_neg (by omega), if_neg (by omega), if_neg (by omega)]
  refine ⟨fun c h1 h2 => ?_, fun c h1 => ?_, fun b hb => ?_, fun b h1 h2 c h3 h5 => ?_⟩
  · unfold mDrop
    by_cases c1 : c = 22 + 21 * j
    · rw [if_pos c1]; exact Nat.le_trans (Nat.sub_le _ _) (h.1 c h1 h2)
    · rw [if_neg c1]
      by_cases c2 : 23 + 21 * j + 4 * (i - 1) ≤ c ∧ c < 31 + 21 * j
      · rw [if_pos c2]
        have h7 := h.1 (c + 4) (by omega) (by omega)
        have : hiB (c + 4) = hiB c := by
          rw [hi_b (q := c + 4) (o := (c - 14) % 21 + 4) (by omega) (by omega), hi_b (q := c) (o := (c - 14) % 21) (by omega) rfl]
          have h8 : 9 ≤ (c - 14) % 21 ∧ (c - 14) % 21 < 17 := by omega
          generalize (c - 14) % 21 = o at h8
          rcases (show o = 9 ∨ o = 10 ∨ o = 11 ∨ o = 12 ∨ o = 13 ∨ o = 14 ∨ o = 15 ∨ o = 16 by omega) with rfl | rfl | rfl | rfl | rfl | rfl | rfl | rfl <;> rfl
        rw [← this]; exact h7
      · rw [if_neg c2]
        by_cases c3 : 31 + 21 * j ≤ c ∧ c < 35 + 21 * j
        · rw [if_pos c3]; exact Nat.zero_le _
        · rw [if_neg c3]; exact h.1 c h1 h2
  · unfold mDrop
    rw [if_neg (by omega), if_neg (by omega), if_neg (by omega)]
    exact h.2.1 c h1
  · rw [e4] at hb
    unfold mDrop
    rw [if_neg (by omega), if_neg (by omega), if_neg (by omega)]
    exact h.2.2.1 b hb
  · rw [e4] at h1
    unfold mDrop
    rw [if_neg (by omega), if_neg (by omega), if_neg (by omega)]
    exact h.2.2.2 b h1 h2 c h3 h5
/-! closing a round -/
def clR (ρ : Nat → Nat) : Nat → Nat → Nat
  | 0 => ρ
  | b + 1 => setN (clR ρ b) (14 + 21 * b) (min (clR ρ b (14 + 21 * b)) (100 * act (clR ρ b) b / clR ρ b 2))
def clP (ρ : Nat → Nat) (k : Nat) : Nat → Nat := if ρ (5 + k) < askedOf ρ k then mRaise ρ k else ρ
def clQ (ρ : Nat → Nat) : Nat → Nat := clP (clP (clP ρ 0) 1) 2
def cl1 (ρ : Nat → Nat) : Nat → Nat := clR ρ (ρ 4)
def mClose (ρ : Nat → Nat) : Nat → Nat := setN (setN (clQ (cl1 ρ)) 1 (if scarce (cl1 ρ) = 0 then 1 else 0)) 0 (ρ 0 + 1)
theorem clR_o {q : Nat} (h : ∀ c, c < b → q ≠ 14 + 21 * c) : clR ρ b q = ρ q := by
  induction b with
  | zero => rfl
  | succ b ih => exact (setN_n (h b (by omega))).trans (ih (fun c hc => h c (by omega)))
theorem clR_4 : clR ρ b 4 = ρ 4 := clR_o (fun c _ => by omega)
theorem Inv_clR (h : Inv ρ) : ∀ {b : Nat}, b ≤ ρ 4 → Inv (clR ρ b)
  | 0, _ => h
  | b + 1, hb => by
    have ih := Inv_clR h (b := b) (by omega)
    have h4 : clR ρ b 4 = ρ 4 := clR_4
    exact Inv_rgt ih (by rw [h4]; omega) (Nat.le_trans (Nat.min_le_left _ _) (ih.rgt (j := b) (by rw [h4]; omega) rfl))
theorem clP_o {q : Nat} (h : q ≠ 11 + k) : clP ρ k q = ρ q := by unfold clP; split; exact setN_n h; rfl
theorem Inv_clP (h : Inv ρ) (hk : k < 3) : Inv (clP ρ k) := by unfold clP; split; exact Inv_raise h hk; exact h
theorem asked_cong {ρ' : Nat → Nat} (h4 : ρ' 4 = ρ 4) (h : ∀ b, b < ρ 4 → ρ' (19 + 21 * b + k) = ρ (19 + 21 * b + k)) : askedOf ρ' k = askedOf ρ k := by
  unfold askedOf
  rw [h4]
  have : ∀ n, n ≤ ρ 4 → sumB (fun b => ρ' (19 + 21 * b + k)) n = sumB (fun b => ρ (19 + 21 * b + k)) n := by
    intro n
    induction n with
    | zero => intro _; rfl
    | succ n ih => intro hn; show sumB _ n + ρ' (19 + 21 * n + k) = sumB _ n + ρ (19 + 21 * n + k); rw [ih (by omega), h n (by omega)]
  exact this _ (Nat.le_refl _)
theorem asked_clP : askedOf (clP ρ i) k = askedOf ρ k ∨ 3 ≤ i := by
  by_cases hi : i < 3
  · exact Or.inl (asked_cong (clP_o (by omega)) (fun b _ => clP_o (by omega)))
  · exact Or.inr (by omega)
theorem asked_clR : askedOf (clR ρ b) k = askedOf ρ k ∨ 3 ≤ k := by
  by_cases hk : k < 3
  · exact Or.inl (asked_cong clR_4 (fun c _ => clR_o (fun c2 _ => by omega)))
  · exact Or.inr (by omega)
theorem clQ_o {q : Nat} (h : q < 11 ∨ 14 ≤ q) : clQ ρ q = ρ q := by
  unfold clQ; rw [clP_o (by omega), clP_o (by omega), clP_o (by omega)]
theorem Inv_clQ (h : Inv ρ) : Inv (clQ ρ) := Inv_clP (Inv_clP (Inv_clP h (by decide)) (by decide)) (by decide)
theorem Inv_close (h : Inv ρ) : Inv (mClose ρ) := by
  unfold mClose
  refine Inv_rnd (Inv_over (Inv_clQ (Inv_clR h (Nat.le_refl _))) ?_)
  split <;> decide
theorem clR_1 : clR ρ (1 + b) = setN (clR ρ b) (14 + 21 * b) (min (clR ρ b (14 + 21 * b)) (100 * act (clR ρ b) b / clR ρ b 2)) := by rw [Nat.add_comm]; rfl
theorem clR_1o {q : Nat} (h : q < 14 + 21 * b ∨ 35 + 21 * b ≤ q) : clR ρ (1 + b) q = clR ρ b q := by rw [clR_1]; exact setN_n (by omega)
theorem Inv_cl1 (h : Inv ρ) : Inv (cl1 ρ) := Inv_clR h (Nat.le_refl _)
theorem raise_o {q : Nat} (h : q ≠ 11 + k) : mRaise ρ k q = ρ q := setN_n h
theorem asked_raise (hi : i < 3) : askedOf (mRaise ρ i) k = askedOf ρ k := asked_cong (raise_o (by omega)) (fun b _ => raise_o (by omega))
def shf (f : Nat → Nat) (lo hi s : Nat) : Nat → Nat := fun c => if lo ≤ c ∧ c < hi then f (c + s) else f c
theorem shf_1 {f : Nat → Nat} {lo hi x : Nat} (h : lo ≤ hi) (hx : x = shf f lo hi 1 (hi + 1)) : setN (shf f lo hi 1) hi x = shf f lo (hi + 1) 1 := by
  subst hx
  funext c
  simp only [setN, shf]
  by_cases e : c = hi
  · subst e; rw [if_pos rfl, if_neg (by omega), if_pos (by omega)]
  · rw [if_neg e]
    by_cases e2 : lo ≤ c ∧ c < hi
    · rw [if_pos e2, if_pos (by omega)]
    · rw [if_neg e2, if_neg (by omega)]
theorem shf_3 {f : Nat → Nat} {lo hi x y z : Nat} (h : lo ≤ hi) (hx : x = f (hi + 3)) (hy : y = f (hi + 4)) (hz : z = f (hi + 5)) : setN (setN (setN (shf f lo hi 3) hi x) (hi + 1) y) (hi + 2) z = shf f lo (hi + 3) 3 := by
  subst hx hy hz
  funext c
  simp only [setN, shf]
  by_cases e : c = hi + 2
  · subst e; rw [if_pos rfl, if_pos (by omega)]
  · rw [if_neg e]
    by_cases e1 : c = hi + 1
    · subst e1; rw [if_pos rfl, if_pos (by omega)]
    · rw [if_neg e1]
      by_cases e2 : c = hi
      · subst e2; rw [if_pos rfl, if_pos (by omega)]
      · rw [if_neg e2]
        by_cases e3 : lo ≤ c ∧ c < hi
        · rw [if_pos e3, if_pos (by omega)]
        · rw [if_neg e3, if_neg (by omega)]
theorem shf_0 {f : Nat → Nat} {lo s : Nat} : shf f lo lo s = f := by
  funext c
  simp only [shf]
  rw [if_neg (by omega)]
theorem shf_out {f : Nat → Nat} {lo hi s c : Nat} (h : c < lo ∨ hi ≤ c) : shf f lo hi s c = f c := by
  simp only [shf]
  rw [if_neg (by omega)]
end KEEP
def row0 : Nat → Nat := setN (setN (setN (setN (setN (setN (setN (setN (setN (setN (setN (fun _ => 0) 2 100) 3 10) 5 2) 8 1) 11 10) 6 2) 9 1) 12 10) 7 2) 10 1) 13 10
theorem Inv_0 : Inv row0 := by
  have h : ∀ q, q < 140 → (1 ≤ q → row0 q ≤ hiB q) ∧ (q < 14 → loB q ≤ row0 q) ∧ (14 ≤ q → row0 q = 0) := by decide +kernel
  refine ⟨fun q h1 h2 => (h q h2).1 h1, fun q h1 => (h q (by omega)).2.1 h1, fun b hb => ?_, fun b _ h6 q h2 h3 => (h q (by omega)).2.2 (by omega)⟩
  exact absurd hb (by rw [show row0 4 = 0 from rfl]; omega)
def cpyN (F G : Nat → Nat) (N : Nat) : Nat → Nat := fun k => if k < N then F k else G k
theorem cpy_row (F G : Nat → Nat) (N : Nat) : va_cpy (rowF F) (rowF G) 0 0 N = rowF (cpyN F G N) := by
  funext k
  simp only [va_cpy, rowF, cpyN, Nat.zero_le, true_and, Nat.zero_add, Nat.sub_zero]
  split <;> rfl
theorem x_copy {p : Program} {l : Launch} {e : Env} {R : Room} {s : State} {m : MethodId} {args : Array Value} {below : List Frame} {meth : Method} {c : Code} {H : Heap} {locs : List Loc} {cells slots : Nat} {Q : State → Prop} {cc : ByteArray} {pc idx nL : Nat} {ls : Array Slot} {rest : List Value} {own : String} {G : va_G} {Y : Nat → Nat} {A : Nat → Prop} {H0 : Heap} {segs : List va_W} {seg g0 : va_W}
    (M : XM p m c cc nL s args own) (hK : xK G Y s) (hw : xW G A H0 segs H locs) (hl : ls.size = nL) (hlink : Cond.methodLink own idx arraycopyName ∈ wB) (hnat : Cond.native arraycopyName ∈ wB) (hstat : Cond.static arraycopyName ∈ wB) (hini : Cond.initialized "java/lang/System" ∈ wB)
    (i0 j0 i j : Nat) {a0 a n0 n1 : Nat} {f g : Nat → Int32} (hs0 : segs[i0]? = some g0) (he0 : g0[j0]? = some (a0, .inl (Y 0, n0, .inl f))) (hs1 : segs[i]? = some seg) (he1 : seg[j]? = some (a, .inl (Y 0, n1, .inl g))) {N : Nat} (h0 : N ≤ n0) (h1 : N ≤ n1) (hN : N < 2 ^ 31)
    (hR : 1 ≤ R.frames ∧ 8 + (nativeFrameWords "java/lang/System" "arraycopy" 5 + 11) ≤ R.locals) (hrest : (rest.map fun v => v.category).sum ≤ 8) (hdg : decode cc pc = .ok (.invokestatic idx, 3))
    (kk : ∀ (H1 : Heap) (locs1 : List Loc), xW G A H0 (segs.set i (seg.set j (a, .inl (Y 0, n1, .inl (va_cpy f g 0 0 N))))) H1 locs1 → W p l e R s m args below meth c H1 locs1 cells slots Q (F0 m (pc + 3) ls rest)) : W p l e R s m args below meth c H locs cells slots Q (F0 m pc ls (.int (nI N) :: .int (nI 0) :: .ref a :: .int (nI 0) :: .ref a0 :: rest)) := by
  obtain ⟨hx, hbb, hml, hown, hts⟩ := M
  obtain ⟨hP, hD, hS, hA⟩ := hw
  have m0 : (a0, (.inl (Y 0, n0, .inl f) : va_E)) ∈ segs.flatten := List.mem_flatten.mpr ⟨g0, List.mem_of_getElem? hs0, List.mem_of_getElem? he0⟩
  have m1 : (a, (.inl (Y 0, n1, .inl g) : va_E)) ∈ segs.flatten := List.mem_flatten.mpr ⟨seg, List.mem_of_getElem? hs1, List.mem_of_getElem? he1⟩
  obtain ⟨q0, hq0⟩ := List.getElem?_of_mem m0
  obtain ⟨q1, hq1⟩ := List.getElem?_of_mem m1
  refine va_copyi hx hbb (hml.trans hl.symm) hown (hts _ hlink) (hts _ hnat) (hts _ hstat) (hts _ hini) hK.1 hP hD hS q0 q1 0 0 hq0 hq1 rfl rfl rfl (by decide) (by decide) (nI_pos hN) (by rw [nI_clamp hN, nI_clamp (by decide)]; omega) (by rw [nI_clamp hN, nI_clamp (by decide)]; omega) (fun _ _ => rfl) hR.1 (by omega) hdg ?_
  intro H1 locs1 hP1 hD1 hS1
  refine kk H1 locs1 ⟨?_, xD_same hD (set_segads hs1 (set_ads he1)), hS1, hA⟩
  rw [nI_clamp hN, nI_clamp (by decide)] at hP1
  rw [xP_iff]
  intro q hq
  obtain ⟨s1, hs2, hq2⟩ := List.mem_flatten.mp hq
  obtain ⟨k, hk⟩ := List.getElem?_of_mem hs2
  obtain ⟨j2, hj2⟩ := List.getElem?_of_mem hq2
  have hl1 := (List.getElem?_eq_some_iff.mp hs1).1
  have hl2 := (List.getElem?_eq_some_iff.mp he1).1
  have hq1l := (List.getElem?_eq_some_iff.mp hq1).1
  have new : va_at G vwCl (a, .inl (Y 0, n1, .inl (va_cpy f g 0 0 N))) H1 := hP1 q1 _ (List.getElem?_set_self hq1l)
  have old : ∀ (k j2 : Nat) (s1 : va_W), segs[k]? = some s1 → s1[j2]? = some q → ¬ (k = i ∧ j2 = j) → va_at G vwCl q H1 := by
    intro k j2 s1 g1 g2 hne
    have hm : q ∈ segs.flatten := List.mem_flatten.mpr ⟨s1, List.mem_of_getElem? g1, List.mem_of_getElem? g2⟩
    obtain ⟨z, hz⟩ := List.getElem?_of_mem hm
    have hza : q.1 ≠ a := fun e => hne (xD_uniq hD g1 g2 hs1 he1 e)
    have hzq : q1 ≠ z := fun e => by
      subst e
      rw [hq1] at hz
      cases hz
      exact hza rfl
    exact hP1 z q (by rw [List.getElem?_set_ne hzq]; exact hz)
  by_cases hik : i = k
  · subst hik
    rw [List.getElem?_set_self hl1] at hk
    cases hk
    by_cases hjj : j = j2
    · subst hjj
      rw [List.getElem?_set_self hl2] at hj2
      cases hj2
      exact new
    · rw [List.getElem?_set_ne hjj] at hj2
      exact old i j2 seg hs1 hj2 (fun z => hjj z.2.symm)
  · rw [List.getElem?_set_ne hik] at hk
    exact old k j2 s1 hk hj2 (fun z => hik z.1.symm)
theorem shf_4 {f : Nat → Nat} {lo hi s x : Nat} (h : lo ≤ hi) (hx : x = f (hi + s)) : setN (shf f lo hi s) hi x = shf f lo (hi + 1) s := by
  subst hx
  funext c
  simp only [setN, shf]
  by_cases e : c = hi
  · subst e; rw [if_pos rfl, if_pos (by omega)]
  · rw [if_neg e]
    by_cases e2 : lo ≤ c ∧ c < hi
    · rw [if_pos e2, if_pos (by omega)]
    · rw [if_neg e2, if_neg (by omega)]
def cpS (f g : Nat → Nat) (fa ta m : Nat) : Nat → Nat := fun k => if ta ≤ k ∧ k < ta + m then f (fa + (k - ta)) else g k
theorem cpS_0 {f g : Nat → Nat} {fa ta : Nat} : cpS f g fa ta 0 = g := by
  funext k; simp only [cpS]; rw [if_neg (by omega)]
theorem cpS_1 {f g : Nat → Nat} {fa ta i : Nat} : setN (cpS f g fa ta i) (ta + i) (f (fa + i)) = cpS f g fa ta (1 + i) := by
  funext k
  simp only [setN, cpS]
  by_cases e : k = ta + i
  · subst e; rw [if_pos rfl, if_pos (by omega)]; congr 1; omega
  · rw [if_neg e]
    by_cases e2 : ta ≤ k ∧ k < ta + i
    · rw [if_pos e2, if_pos (by omega)]
    · rw [if_neg e2, if_neg (by omega)]
theorem cpS_in {f g : Nat → Nat} {fa ta m k : Nat} (h : k < m) : cpS f g fa ta m (ta + k) = f (fa + k) := by
  simp only [cpS]; rw [if_pos (by omega)]; congr 1; omega
theorem cpS_out {f g : Nat → Nat} {fa ta m k : Nat} (h : k < ta ∨ ta + m ≤ k) : cpS f g fa ta m k = g k := by
  simp only [cpS]; rw [if_neg (by omega)]
