/-! an auction's cells after writes, as a row again -/
theorem xW.recell {G : va_G} {A : Nat → Prop} {H0 H : Heap} {segs : List va_W} {locs : List Loc} (h : xW G A H0 segs H locs) {i : Nat} {w w' : va_W} (hs : segs[i]? = some w) (he : ads w' = ads w) (hc : ∀ q ∈ w', va_at G vwCl q H) : xW G A H0 (segs.set i w') H locs := by
  obtain ⟨h1, h2, h3⟩ := h
  refine ⟨xP_iff.mpr ?_, xD_same h2 (set_segads hs he), h3⟩
  intro q hq
  obtain ⟨s1, hs1, hq1⟩ := List.mem_flatten.mp hq
  obtain ⟨k, hk⟩ := List.getElem?_of_mem hs1
  have hl := (List.getElem?_eq_some_iff.mp hs).1
  by_cases hik : i = k
  · subst hik
    rw [List.getElem?_set_self hl] at hk
    cases hk
    exact hc q hq1
  · rw [List.getElem?_set_ne hik] at hk
    exact xP_iff.mp h1 q (List.mem_flatten.mpr ⟨s1, List.mem_of_getElem? hk, hq1⟩)
theorem auc_fold {G : va_G} {Y : Nat → Nat} {A : Nat → Prop} {H0 H : Heap} {segs : List va_W} {locs : List Loc} {h i : Nat} {ρ' : Nat → Nat} {f0 f1 f2 f3 f4 f5 f6 f7 f8 f9 : Nat → Nat} {n0 r0 o0 k0 s0 : Nat} (hw : xW G A H0 segs H locs)
    (hs : segs[i]? = some (aucR Y h f0 f1 f2 f3 f4 f5 f6 f7 f8 f9 n0 r0 o0 k0 s0))
    (e4 : n0 = ρ' 4) (e0 : r0 = ρ' 0) (e1 : o0 = ρ' 1) (e2 : k0 = ρ' 2) (e3 : s0 = ρ' 3)
    (g0 : ∀ k, k < 3 → f0 k = ρ' (5 + k)) (g1 : ∀ k, k < 3 → f1 k = ρ' (8 + k)) (g2 : ∀ k, k < 3 → f2 k = ρ' (11 + k))
    (g3 : ∀ b, b < ρ' 4 → f3 b = ρ' (14 + 21 * b)) (g4 : ∀ b, b < ρ' 4 → f4 b = ρ' (15 + 21 * b)) (g5 : ∀ b, b < ρ' 4 → f5 b = ρ' (22 + 21 * b))
    (g6 : ∀ b k, b < ρ' 4 → k < 3 → f6 (3 * b + k) = ρ' (16 + 21 * b + k)) (g7 : ∀ b k, b < ρ' 4 → k < 3 → f7 (3 * b + k) = ρ' (19 + 21 * b + k))
    (g8 : ∀ b i k, b < ρ' 4 → i < ρ' (22 + 21 * b) → i < 3 → k < 3 → f8 (9 * b + 3 * i + k) = ρ' (23 + 21 * b + 4 * i + k)) (g9 : ∀ b i, b < ρ' 4 → i < ρ' (22 + 21 * b) → i < 3 → f9 (3 * b + i) = ρ' (26 + 21 * b + 4 * i)) :
    ∃ γ' : Nat → Nat → Nat, xW G A H0 (segs.set i (aucW Y h ρ' γ')) H locs := by
  subst e4 e0 e1 e2 e3
  refine ⟨fun i => if i = 3 then f3 else if i = 4 then f4 else if i = 5 then f5 else if i = 6 then f6 else if i = 7 then f7 else if i = 8 then f8 else f9, ?_⟩
  generalize hγ : (fun i => if i = 3 then f3 else if i = 4 then f4 else if i = 5 then f5 else if i = 6 then f6 else if i = 7 then f7 else if i = 8 then f8 else f9) = γ'
  have h3 : rgtF ρ' γ' = f3 := by
    funext b; simp only [rgtF]; split
    · exact (g3 b ‹_›).symm
    · rw [← hγ]; rfl
  have h4 : capF ρ' γ' = f4 := by
    funext b; simp only [capF]; split
    · exact (g4 b ‹_›).symm
    · rw [← hγ]; rfl
  have h5 : pckF ρ' γ' = f5 := by
    funext b; simp only [pckF]; split
    · exact (g5 b ‹_›).symm
    · rw [← hγ]; rfl
  have h6 : valF ρ' γ' = f6 := by
    funext c; simp only [valF]; split
    · rw [← g6 (c / 3) (c % 3) ‹_› (Nat.mod_lt _ (by decide))]; congr 1; omega
    · rw [← hγ]; rfl
  have h7 : demF ρ' γ' = f7 := by
    funext c; simp only [demF]; split
    · rw [← g7 (c / 3) (c % 3) ‹_› (Nat.mod_lt _ (by decide))]; congr 1; omega
    · rw [← hγ]; rfl
  have h8 : lotF ρ' γ' = f8 := by
    funext c; simp only [lotF]; split
    · rename_i hh
      rw [← g8 (c / 9) (c / 3 % 3) (c % 3) hh.1 hh.2 (Nat.mod_lt _ (by decide)) (Nat.mod_lt _ (by decide))]; congr 1; omega
    · rw [← hγ]; rfl
  have h9 : worF ρ' γ' = f9 := by
    funext c; simp only [worF]; split
    · rename_i hh
      rw [← g9 (c / 3) (c % 3) hh.1 hh.2 (Nat.mod_lt _ (by decide))]; congr 1; omega
    · rw [← hγ]; rfl
  have hP := xP_iff.mp (hw.seg hs)
  unfold aucR at hP
  refine hw.recell hs rfl ?_
  unfold aucW aucR
  rw [h3, h4, h5, h6, h7, h8, h9]
  intro q hq
  simp only [List.mem_cons, List.not_mem_nil, or_false] at hq
  rcases hq with rfl | rfl | rfl | rfl | rfl | rfl | rfl | rfl | rfl | rfl | rfl
  · exact hP _ (by simp)
  · exact xAt_congr (hP (h + 1, .inl (Y 0, 3, .inl (rowF f0))) (by simp)) (fun j hj => congrArg nI (g0 j hj).symm)
  · exact xAt_congr (hP (h + 2, .inl (Y 0, 3, .inl (rowF f1))) (by simp)) (fun j hj => congrArg nI (g1 j hj).symm)
  · exact xAt_congr (hP (h + 3, .inl (Y 0, 3, .inl (rowF f2))) (by simp)) (fun j hj => congrArg nI (g2 j hj).symm)
  · exact hP _ (by simp)
  · exact hP _ (by simp)
  · exact hP _ (by simp)
  · exact hP _ (by simp)
  · exact hP _ (by simp)
  · exact hP _ (by simp)
  · exact hP _ (by simp)
theorem row_fold {G : va_G} {Y : Nat → Nat} {A : Nat → Prop} {H0 H : Heap} {segs : List va_W} {locs : List Loc} {a i N : Nat} {f f' : Nat → Int32} (hw : xW G A H0 segs H locs)
    (hs : segs[i]? = some [(a, .inl (Y 0, N, .inl f))]) (g : ∀ k, k < N → f' k = f k) : xW G A H0 (segs.set i [(a, .inl (Y 0, N, .inl f'))]) H locs := by
  have hP := xP_iff.mp (hw.seg hs)
  refine hw.recell hs rfl ?_
  intro q hq
  simp only [List.mem_cons, List.not_mem_nil, or_false] at hq
  subst hq
  exact xAt_congr (hP (a, .inl (Y 0, N, .inl f)) (by simp)) g
theorem x_max {p : Program} {l : Launch} {e : Env} {R : Room} {s : State} {m : MethodId} {args : Array Value} {below : List Frame} {meth : Method} {c : Code} {H : Heap} {locs : List Loc} {cells slots : Nat} {Q : State → Prop} {cc : ByteArray} {pc idx nL : Nat} {ls : Array Slot} {rest : List Value} {own : String}
    (M : XM p m c cc nL s args own) (hl : ls.size = nL) (hlink : Cond.methodLink own idx Lib.Math.max.name ∈ wB) (hstat : Cond.static Lib.Math.max.name ∈ wB) (hini : Cond.initialized "java/lang/Math" ∈ wB) (hcode : Cond.code Lib.Math.max.name Lib.Math.max.code 2 (some .int) ∈ wB) (hR : 1 ≤ R.frames ∧ 21 ≤ R.locals) (hf : cells ≤ R.cells ∧ slots ≤ R.slots) (hrest : (rest.map fun v => v.category).sum ≤ 8) {a b : Nat} (ha : a < 2 ^ 31) (hb : b < 2 ^ 31) (hdg : decode cc pc = .ok (.invokestatic idx, 3))
    (kk : W p l e R s m args below meth c H locs cells slots Q (F0 m (pc + 3) ls (.int (nI (max a b)) :: rest))) : W p l e R s m args below meth c H locs cells slots Q (F0 m pc ls (.int (nI b) :: .int (nI a) :: rest)) := by
  obtain ⟨hx, hbb, hml, hown, hts⟩ := M
  refine va_mmax hx hbb (hml.trans hl.symm) hown (hts _ hlink) (hts _ hstat) (hts _ hini) (hts _ hcode) hR.1 (by omega) hf.1 hf.2 hdg ?_
  have h : (if nI a < nI b then nI b else nI a) = nI (max a b) := by
    by_cases h : a < b
    · rw [if_pos ((nI_ltI ha hb).mpr h), Nat.max_eq_right (Nat.le_of_lt h)]
    · rw [if_neg (fun z => h ((nI_ltI ha hb).mp z)), Nat.max_eq_left (Nat.not_lt.mp h)]
  first
    | (rw [h]; exact kk)
    | (have h2 : ∀ z : Int32, z = nI (max a b) → W p l e R s m args below meth c H locs cells slots Q (F0 m (pc + 3) ls (.int z :: rest)) := fun z hz => by rw [hz]; exact kk
       refine h2 _ ?_
       simp only [← h]
       split <;> split <;> first | rfl | (simp only [nI_ltI ha hb, nI_leI hb ha, nI_leI ha hb, nI_ltI hb ha] at *; first | (congr 1; omega) | omega))
