/-! what the start gives: the tables, the statics, the String constants -/
def nW : List Cond := flatC (Jvm.Cond.and given_1 narrow_1)
def sP : List Nat := [158, 168, 175, 182, 191, 198, 203, 207, 214, 221, 230, 237, 117, 138, 242, 272, 294, 310, 332, 350, 372, 391, 410, 445, 480, 517, 32, 51, 97, 543, 564]
def sT : List Nat := [510, 599, 600, 601, 602, 603, 604, 612, 613, 614, 615, 616, 470, 484, 637, 691, 714, 722, 736, 742, 758, 774, 790, 791, 792, 883, 242, 270, 407, 973, 981]
def sTm (i : Nat) : Term := .string (xStr.getD i (RX4, 0, "", 0)).1 (xStr.getD i (RX4, 0, "", 0)).2.1
theorem inWB {w : Cond} (h : w ∈ wB) : w ∈ lw_tbl := (List.mem_filter.mp h).1
theorem sW_ex : ∀ i, i < 31 → nW[sP.getD i 0]? = some (.exactly (sTm i) "java/lang/String") := by decide +kernel
theorem sW_ref : ∀ i, i < 31 → lw_tbl[sT.getD i 0]? = some (.stringRef (xStr.getD i (RX4, 0, "", 0)).1 (xStr.getD i (RX4, 0, "", 0)).2.1 (xStr.getD i (RX4, 0, "", 0)).2.2.1) := by decide +kernel
theorem sW_no : ∀ i, i < 31 → (xStr.getD i (RX4, 0, "", 0)).2.2.2 = 200 + i := by decide +kernel
theorem sW_co : ∀ i, i < 12 → nW[sP.getD i 0 + 1]? = some (.eq (.field (sTm i) "java/lang/String" "coder" "B") (.int 0)) := by decide +kernel
theorem sW_ar : ∀ i, i < 12 → nW[sP.getD i 0 + 2]? = some (.arrayOf (.field (sTm i) "java/lang/String" "value" "[B") .byte) := by decide +kernel
theorem sW_le : ∀ i, i < 12 → nW[sP.getD i 0 + 3]? = some (.eq (.length (.field (sTm i) "java/lang/String" "value" "[B")) (.int (Int32.ofNat (xLen.getD i 0)))) := by decide +kernel
theorem sW_el : ∀ i, i < 12 → ∀ j, j < xLen.getD i 0 → nW[sP.getD i 0 + 4 + j]? = some (.eq (.elem (.field (sTm i) "java/lang/String" "value" "[B") (.int (Int32.ofNat j))) (.int ((xByt.getD i []).getD j 0))) := by decide +kernel
theorem sW_len : ∀ i, i < 12 → xLen.getD i 0 < 2 ^ 31 := by decide +kernel
theorem sW_inj : ∀ i, i < 12 → ∀ j, j < 12 → xLen.getD i 0 = xLen.getD j 0 → (∀ k, k < xLen.getD i 0 → (xByt.getD i []).getD k 0 = (xByt.getD j []).getD k 0) → i = j := by decide +kernel
theorem va_OF_one {o n d : String} {v w : Value} {a : Nat} {A : Nat → Prop} {U : State} {H : Heap} (h1 : va_OF o n d v a A U H) (h2 : va_OF o n d w a A U H) : v = w := by
  obtain ⟨cf, k, i, f, cell, q1, -, q3, -, q5, -⟩ := h1
  obtain ⟨cf', k', i', f', cell', r1, -, r3, -, r5, -⟩ := h2
  cases q1.symm.trans r1
  cases q3.symm.trans r3
  exact Option.some.inj (q5.symm.trans r5)
theorem va_T_one {ty : FieldType} {t N M : Nat} {f g : Nat → Value} {A : Nat → Prop} {U : State} {H : Heap} (h1 : va_T ty t N f A U H) (h2 : va_T ty t M g A U H) (hN : N < 2 ^ 31) (hM : M < 2 ^ 31) : N = M ∧ ∀ j, j < N → f j = g j := by
  obtain ⟨cell, q1, -, -, -, q5, q6, -⟩ := h1
  obtain ⟨cell', r1, -, -, -, r5, r6, -⟩ := h2
  cases q1.symm.trans r1
  have e : N = M := nI_injN (show nI N = nI M from q5.symm.trans r5) hN hM
  subst e
  exact ⟨rfl, fun j hj => Option.some.inj ((q6 j hj).symm.trans (r6 j hj))⟩
def yOf (a : Nat → Nat) (ad : Nat → Nat × Nat) : Nat → Nat := fun k => if k < 5 then a k else if k < 300 then (ad (k - 200)).1 else (ad (k - 300)).2
theorem yOf_0 {a : Nat → Nat} {ad : Nat → Nat × Nat} {k : Nat} (h : k < 5) : yOf a ad k = a k := if_pos h
theorem yOf_1 {a : Nat → Nat} {ad : Nat → Nat × Nat} {i : Nat} (h : i < 31) : yOf a ad (200 + i) = (ad i).1 := by
  unfold yOf
  rw [if_neg (by omega), if_pos (by omega), Nat.add_sub_cancel_left]
theorem yOf_2 {a : Nat → Nat} {ad : Nat → Nat × Nat} {i : Nat} : yOf a ad (300 + i) = (ad i).2 := by
  unfold yOf
  rw [if_neg (by omega), if_neg (by omega), Nat.add_sub_cancel_left]
section XTABS
variable {s : State} {as : Array Value}
/-- the String constants' cells -/
theorem x_strs (hgv : (Jvm.Cond.and given_1 narrow_1).before as s = true) : ∃ ad : Nat → Nat × Nat, (∀ i, i < 31 → (sTm i).eval as s none [] s = some (.ref (ad i).1)) ∧ vk_S 12 xLen xByt (fun i => (ad i).1) (fun i => (ad i).2) (fun q => s.heap.size ≤ q) s s.heap := by
  have hs : ∀ c ∈ nW, c.before as s = true := flat_of_before _ hgv
  have hA : ∀ a : Nat, a < s.heap.size → ¬ s.heap.size ≤ a := fun a h => Nat.not_le.mpr h
  have h0 : ∀ i : Nat, ∃ q : Nat × Nat, i < 31 → (sTm i).eval as s none [] s = some (.ref q.1) ∧ (i < 12 → va_O "java/lang/String" q.1 (fun q => s.heap.size ≤ q) s s.heap ∧ va_OF "java/lang/String" "coder" "B" (.int 0) q.1 (fun q => s.heap.size ≤ q) s s.heap ∧ va_OF "java/lang/String" "value" "[B" (.ref q.2) q.1 (fun q => s.heap.size ≤ q) s s.heap ∧ va_T .byte q.2 (xLen.getD i 0) (fun j => .int ((xByt.getD i []).getD j 0)) (fun q => s.heap.size ≤ q) s s.heap) := by
    intro i
    by_cases hi : i < 12
    · obtain ⟨adK, adV, hS, he⟩ := vk_Sof (args := as) (s := s) (N := 1) (tm := fun _ => sTm i) (len := [xLen.getD i 0]) (byt := [xByt.getD i []]) (A := fun q => s.heap.size ≤ q)
        (fun k hk => by obtain rfl : k = 0 := by omega
                        exact sW_len i hi)
        (fun k _ => hs _ (List.mem_of_getElem? (sW_ex i (by omega))))
        (fun k _ => hs _ (List.mem_of_getElem? (sW_co i hi)))
        (fun k _ => hs _ (List.mem_of_getElem? (sW_ar i hi)))
        (fun k hk => by obtain rfl : k = 0 := by omega
                        exact hs _ (List.mem_of_getElem? (sW_le i hi)))
        (fun k hk j hj => by obtain rfl : k = 0 := by omega
                             exact hs _ (List.mem_of_getElem? (sW_el i hi j hj)))
        (fun k q hk hq hne => absurd (by omega) hne) hA
      exact ⟨(adK 0, adV 0), fun _ => ⟨he 0 (by decide), fun _ => hS.1 0 (by decide)⟩⟩
    · by_cases hi2 : i < 31
      · obtain ⟨a, c, cell, k, q1, -⟩ := Cond.exactly_spec (args := as) (first := s) (o := none) (s := s) (idx := []) (t := sTm i) (cls := "java/lang/String") (hs _ (List.mem_of_getElem? (sW_ex i hi2)))
        exact ⟨(a, 0), fun _ => ⟨q1, fun z => absurd z hi⟩⟩
      · exact ⟨(0, 0), fun z => absurd z hi2⟩
  obtain ⟨ad, had⟩ := Classical.axiomOfChoice h0
  refine ⟨ad, fun i hi => (had i hi).1, fun i hi => (had i (by omega)).2 hi, fun i j hi hj eq => ?_⟩
  obtain ⟨-, -, v1, t1⟩ := (had i (by omega)).2 hi
  obtain ⟨-, -, v2, t2⟩ := (had j (by omega)).2 hj
  have eq : (ad i).1 = (ad j).1 := eq
  rw [← eq] at v2
  have e2 : (ad i).2 = (ad j).2 := Value.ref.inj (va_OF_one v1 v2)
  rw [← e2] at t2
  obtain ⟨e3, e4⟩ := va_T_one t1 t2 (sW_len i hi) (sW_len j hj)
  exact sW_inj i hi j hj e3 (fun k hk => Value.int.inj (e4 k hk))
/-- an array class of numbers -/
theorem x_arrP {type : FieldType} (h : (Cond.arrayClass type).before as s = true) : ∃ c : ClassId, ArrOfT s c type ∧ s.vm.findClass ("[" ++ type.toString) = some c := by
  obtain ⟨c, k, comp, h1, h2, h3⟩ := Cond.arrayClass_spec (args := as) (first := s) (o := none) (s := s) (idx := []) h
  exact ⟨c, fun N z => ⟨fun q h => (by cases h), k, h2, comp, h3⟩, h1⟩
theorem x_arrQ {n : String} (h : (Cond.arrayOver (.object n)).before as s = true) : ∃ c : ClassId, ArrOfT s c (.object n) ∧ va_RA s c (.object n) := by
  obtain ⟨comp, c, k, h1, h2, h3, h4, h5⟩ := Cond.arrayOver_spec (args := as) (first := s) (o := none) (s := s) (idx := []) h
  exact ⟨c, fun N z => ⟨fun q h => (by cases h), k, h3, comp, h4⟩, k, comp, h3, h4, h1, h5⟩
set_option maxHeartbeats 2000000 in
theorem x_tabs (hts : ∀ w ∈ lw_tbl, w.before as s = true) (hgv : (Jvm.Cond.and given_1 narrow_1).before as s = true) : ∃ (G : va_G) (Y : Nat → Nat), xK G Y s ∧ xZ Y (fun q => s.heap.size ≤ q) s s.heap ∧ xN s ∧ va_AO RX1 s := by
  have hs : ∀ c ∈ nW, c.before as s = true := flat_of_before _ hgv
  have hA : ∀ a : Nat, a < s.heap.size → ¬ s.heap.size ≤ a := fun a h => Nat.not_le.mpr h
  obtain ⟨c0, i0, K0⟩ := u_known (C := RX0) (T := TX0) (N := 4) (n := 4) hts (fun w h => inWB (iw_X0 w h)) (hts _ (inWB mw_138))
  obtain ⟨c1, i1, K1⟩ := u_known (C := RX1) (T := TX1) (N := 15) (n := 15) hts (fun w h => inWB (iw_X1 w h)) (hts _ (inWB mw_29))
  obtain ⟨c2, i2, K2⟩ := u_known (C := RX2) (T := TX2) (N := 3) (n := 3) hts (fun w h => inWB (iw_X2 w h)) (hts _ (inWB mw_104))
  obtain ⟨c3, i3, K3⟩ := u_known (C := RX4) (T := TX4) (N := 2) (n := 2) hts (fun w h => inWB (iw_X4 w h)) (hts _ (inWB mw_123))
  obtain ⟨c4, i4, K4⟩ := u_known (C := RX5) (T := TX5) (N := 7) (n := 7) hts (fun w h => inWB (iw_X5 w h)) (hts _ (inWB mw_21))
  obtain ⟨a0, A0, B0⟩ := x_arrP (type := .int) (hts _ (inWB mw_102))
  obtain ⟨a1, A1, B1⟩ := x_arrP (type := .boolean) (hts _ (inWB mw_135))
  obtain ⟨a2, A2, B2⟩ := x_arrP (type := .char) (hts _ (inWB mw_136))
  obtain ⟨a3, A3, B3⟩ := x_arrP (type := .byte) (hts _ (inWB mw_256))
  obtain ⟨a4, A4, B4⟩ := x_arrQ (n := RX1) (hts _ mt_110)
  obtain ⟨ad, had, hS⟩ := x_strs hgv
  obtain ⟨a, ha⟩ : ∃ a : Nat → Nat, a 0 = a0 ∧ a 1 = a1 ∧ a 2 = a2 ∧ a 3 = a3 ∧ a 4 = a4 := ⟨fun k => match k with | 0 => a0 | 1 => a1 | 2 => a2 | 3 => a3 | _ => a4, rfl, rfl, rfl, rfl, rfl⟩
  refine ⟨(fun k => match k with | 0 => c0 | 1 => c1 | 2 => c2 | 3 => c3 | _ => c4, fun k => match k with | 0 => i0 | 1 => i1 | 2 => i2 | 3 => i3 | _ => i4), yOf a ad, ⟨⟨fun k q hq => ?_, fun k q hq => ?_⟩, ?_, ?_⟩, ⟨?_, ?_, ?_, ?_, ?_⟩, ⟨?_, ?_, ?_⟩, ?_⟩
  · match k, hq with
    | 0, hq => cases hq; exact K0
    | 1, hq => cases hq; exact K1
    | 2, hq => cases hq; exact K2
    | 3, hq => cases hq; exact K3
    | 4, hq => cases hq; exact K4
    | k + 5, hq => simp [vwCl] at hq
  · have e0 : yOf a ad 0 = a0 := (yOf_0 (by decide)).trans ha.1
    have e1 : yOf a ad 1 = a1 := (yOf_0 (by decide)).trans ha.2.1
    have e2 : yOf a ad 2 = a2 := (yOf_0 (by decide)).trans ha.2.2.1
    have e3 : yOf a ad 3 = a3 := (yOf_0 (by decide)).trans ha.2.2.2.1
    have e4 : yOf a ad 4 = a4 := (yOf_0 (by decide)).trans ha.2.2.2.2
    unfold tysOf at hq
    rw [e0, e1, e2, e3, e4] at hq
    match k, hq with
    | 0, hq => cases hq; exact ⟨A0, B0⟩
    | 1, hq => cases hq; exact ⟨A1, B1⟩
    | 2, hq => cases hq; exact ⟨A2, B2⟩
    | 3, hq => cases hq; exact ⟨A3, B3⟩
    | 4, hq => cases hq; exact ⟨A4, B4⟩
    | k + 5, hq => simp at hq
  · exact (List.forall_mem_cons.mpr ⟨va_Nw.of rfl (hts _ mt_124), (List.forall_mem_cons.mpr ⟨va_Nw.of rfl (hts _ mt_139), (List.forall_mem_cons.mpr ⟨va_Nw.of rfl (hts _ mt_292), (List.forall_mem_cons.mpr ⟨va_Nw.of rfl (hts _ mt_315), (List.forall_mem_cons.mpr ⟨va_Nw.of rfl (hts _ mt_282), (List.forall_mem_cons.mpr ⟨va_Nw.of rfl (hts _ mt_281), (List.forall_mem_cons.mpr ⟨va_Nw.of rfl (hts _ mt_385), (fun _ h => absurd h List.not_mem_nil)⟩)⟩)⟩)⟩)⟩)⟩)⟩)
  · intro q hq
    obtain ⟨i, hi⟩ := List.getElem?_of_mem hq
    have hl : i < 31 := (List.getElem?_eq_some_iff.mp hi).1
    have e1 : xStr.getD i (RX4, 0, "", 0) = q := by rw [List.getD_eq_getElem?_getD, hi]; rfl
    have e2 := sW_no i hl
    have e3 := hts _ (List.mem_of_getElem? (sW_ref i hl))
    have e4 := had i hl
    unfold sTm at e4
    rw [e1] at e2 e3 e4
    refine vk_R.of e3 ?_
    rw [e2, yOf_1 hl]
    exact e4
  · exact vx_Zqof (hts _ mt_216) (hts _ (inWB mw_6)) (hs _ (List.mem_of_getElem? (i := 4) (by decide +kernel))) hA
  · exact vx_Zqof (hts _ mt_218) (hts _ (inWB mw_6)) (hs _ (List.mem_of_getElem? (i := 5) (by decide +kernel))) hA
  · refine ⟨fun i hi => ?_, fun i j hi hj eq => ?_⟩
    · have e1 : yOf a ad (200 + i) = (ad i).1 := yOf_1 (by omega)
      have e2 : yOf a ad (300 + i) = (ad i).2 := yOf_2
      dsimp only
      rw [e1, e2]
      exact hS.1 i hi
    · have e1 : yOf a ad (200 + i) = (ad i).1 := yOf_1 (by omega)
      have e2 : yOf a ad (200 + j) = (ad j).1 := yOf_1 (by omega)
      exact hS.2 i j hi hj (e1.symm.trans (Eq.trans eq e2))
  · exact va_Zof (hts _ mt_512) (hts _ (inWB mw_11)) (va_eqi (hs _ (List.mem_of_getElem? (i := 6) (by decide +kernel)))) hA
  · exact va_Zqof (hts _ mt_551) (hts _ (inWB mw_15)) (hs _ (List.mem_of_getElem? (i := 7) (by decide +kernel))) hA
  · exact va_Nc.of (hs _ (List.mem_of_getElem? (i := 30) (by decide +kernel)))
  · exact va_Nc.of (hs _ (List.mem_of_getElem? (i := 31) (by decide +kernel)))
  · exact va_Nc.of (hs _ (List.mem_of_getElem? (i := 16) (by decide +kernel)))
  · exact va_AO.of (A := as) (hts _ mt_110)
end XTABS
