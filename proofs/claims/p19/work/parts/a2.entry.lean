/-! ===== where the premises of the start lie (printed by wip/gen/prem.py) ===== -/
def mi_prem : List Cond := flatC (Cond.and given_1 narrow_1)
/-- a String constant: the constant of the same text that the premises speak of, the place of its words, the place of the word that both are one (0: it is itself) -/
def mi_sc : List (String × Nat × Nat × Nat) := [("TypeLoom$Tokens", 30, 24, 0), ("TypeLoom$Known", 39, 84, 0), ("TypeLoom$Known", 45, 91, 0), ("TypeLoom$Known", 47, 99, 0), ("TypeLoom$Known", 59, 107, 0), ("TypeLoom$Known", 61, 114, 0), ("TypeLoom$Tokens", 98, 122, 0), ("TypeLoom", 133, 137, 0), ("TypeLoom", 144, 181, 0), ("TypeLoom$Writer", 110, 212, 0), ("TypeLoom$Writer", 116, 220, 0), ("TypeLoom$Writer", 124, 229, 0), ("TypeLoom$Writer", 129, 236, 0), ("TypeLoom", 152, 244, 0), ("TypeLoom", 174, 282, 0), ("TypeLoom", 179, 321, 0), ("TypeLoomLaw", 19, 363, 0), ("TypeLoom", 88, 368, 0), ("TypeLoom", 99, 409, 0), ("TypeLoomLaw", 68, 449, 0), ("TypeLoomLaw", 70, 454, 0), ("TypeLoomLaw", 72, 463, 0), ("TypeLoomLaw", 74, 473, 0), ("TypeLoomLaw", 76, 479, 0), ("TypeLoomLaw", 78, 485, 0), ("TypeLoomLaw", 80, 491, 0), ("TypeLoomLaw", 82, 497, 0), ("TypeLoomLaw", 84, 503, 0), ("TypeLoomLaw", 90, 512, 0), ("TypeLoomLaw", 92, 520, 0), ("TypeLoomLaw", 94, 529, 0), ("TypeLoomLaw", 97, 534, 0), ("TypeLoomLaw", 99, 543, 0), ("TypeLoomLaw", 101, 550, 0), ("TypeLoomLaw", 103, 558, 0), ("TypeLoomLaw", 105, 564, 0), ("TypeLoomLaw", 120, 636, 0), ("TypeLoomLaw", 122, 642, 0), ("TypeLoomLaw", 124, 648, 0), ("TypeLoomLaw", 126, 654, 0), ("TypeLoomLaw", 128, 659, 0), ("TypeLoomLaw", 130, 664, 0), ("TypeLoomLaw", 147, 669, 0), ("TypeLoomLaw", 149, 682, 0)]
def mi_spl : List Nat := [143, 268, 274, 275, 302, 303, 658, 1287, 1335, 1400, 1407, 1419, 1424, 1438, 1449, 1458, 1506, 1514, 1532, 1567, 1568, 1569, 1572, 1573, 1574, 1575, 1576, 1577, 1578, 1579, 1583, 1591, 1592, 1593, 1594, 1595, 1596, 1597, 1598, 1599, 1600, 1601, 1602, 1603]
def mi_pc : Nat := 4
def mi_ps : Nat := 5
def mi_qpu : Nat := 9
def mi_pn : Nat := 10
/-! ===== what is given at the law's entry is what a run is given ===== -/
theorem mi_nth {ws L : List Cond} (pl : List Nat) (h : L = pl.filterMap (fun i => ws[i]?)) : ∀ w ∈ L, w ∈ ws := fun w hw => by
  rw [h] at hw
  obtain ⟨i, -, hi⟩ := List.mem_filterMap.mp hw
  exact List.mem_of_getElem? hi
def mi_sr (i : Nat) : String × Nat × Nat × Nat := mi_sc.getD i ("", 0, 0, 0)
def mi_tm (i : Nat) : Term := .string (mi_sr i).1 (mi_sr i).2.1
def mi_own (i : Nat) : Term := .string (mi_sw.getD i ("", 0, "")).1 (mi_sw.getD i ("", 0, "")).2.1
def mi_vf (t : Term) : Term := .field t "java/lang/String" "value" "[B"
def mi_pS (t : Term) (b : List Int32) : List Cond := [.exactly t "java/lang/String", .eq (.field t "java/lang/String" "coder" "B") (.int 0), .arrayOf (mi_vf t) .byte, .eq (.length (mi_vf t)) (.int (Int32.ofNat b.length))] ++ (List.range b.length).map (fun j => .eq (.elem (mi_vf t) (.int (Int32.ofNat j))) (.int (b.getD j 0)))
set_option maxRecDepth 100000 in
theorem mi_pS_ok : ∀ i, i < mi_nS → mi_pS (mi_tm i) (mi_byt.getD i []) = (mi_prem.drop (mi_sr i).2.2.1).take (4 + (mi_byt.getD i []).length) ∧ (mi_byt.getD i []).length < 2 ^ 31 := by decide +kernel
set_option maxRecDepth 100000 in
theorem mi_al_ok : ∀ i, i < mi_nS → (mi_tm i = mi_own i ∨ mi_prem[(mi_sr i).2.2.2]? = some (.eq (mi_own i) (mi_tm i))) := by decide +kernel
set_option maxRecDepth 100000 in
theorem mi_sr_ok : mi_sw.map (fun x => Cond.stringRef x.1 x.2.1 x.2.2) = mi_spl.filterMap (fun i => lw_tbl[i]?) := by decide +kernel
set_option maxRecDepth 100000 in
theorem mi_kp_ok : mi_prem[mi_pc]? = some (.eq (.static "java/lang/String" "COMPACT_STRINGS" "Z") (.int 1)) ∧ mi_prem[mi_ps]? = some (.isRef (.static "jdk/internal/util/Preconditions" "SIOOBE_FORMATTER" "Ljava/util/function/BiFunction;")) ∧ mi_prem[mi_qpu]? = some (.isRef (.static Bundle.tN "UNASSIGNED_STACK" Bundle.steD)) ∧ mi_prem[mi_pn]? = some (.isRef (.static Bundle.tN "SUPPRESSED_SENTINEL" Bundle.listD)) := by decide +kernel
def mi_tw : List Cond := [.laysStatic "java/lang/String" "COMPACT_STRINGS" "Z", .initialized "java/lang/String", .laysStatic "jdk/internal/util/Preconditions" "SIOOBE_FORMATTER" "Ljava/util/function/BiFunction;", .initialized "jdk/internal/util/Preconditions", .laysStatic Bundle.tN "UNASSIGNED_STACK" Bundle.steD, .laysStatic Bundle.tN "SUPPRESSED_SENTINEL" Bundle.listD, .initialized Bundle.tN, .arrayOver (.object "java/lang/String")]
set_option maxRecDepth 100000 in
theorem mi_tw_ok : ∀ w ∈ mi_tw, w ∈ lw_tbl := mi_nth [153, 92, 169, 94, 1273, 1275, 107, 1571] (by decide +kernel)
section MIE
variable {args : Array Value} {s : State} {A : Nat → Prop}
theorem mi_strs (hp : ∀ w ∈ mi_prem, w.before args s = true) (hA : ∀ a : Nat, a < s.heap.size → ¬ A a) (i : Nat) (hi : i < mi_nS) : ∃ q : Nat × Nat, (mi_own i).eval args s none [] s = some (.ref q.1) ∧ va_O "java/lang/String" q.1 A s s.heap ∧ va_OF "java/lang/String" "coder" "B" (.int 0) q.1 A s s.heap ∧ va_OF "java/lang/String" "value" "[B" (.ref q.2) q.1 A s s.heap ∧ va_T .byte q.2 (mi_byt.getD i []).length (fun j => .int ((mi_byt.getD i []).getD j 0)) A s s.heap := by
  obtain ⟨h1, h2⟩ := mi_pS_ok i hi
  have hw : ∀ w ∈ mi_pS (mi_tm i) (mi_byt.getD i []), w.before args s = true := fun w hw => hp w (by
    rw [h1] at hw
    exact List.mem_of_mem_drop (List.mem_of_mem_take hw))
  obtain ⟨adK, adV, ⟨hS, -⟩, hev⟩ := vk_Sof (args := args) (s := s) (N := 1) (tm := fun _ => mi_tm i) (len := [(mi_byt.getD i []).length]) (byt := [mi_byt.getD i []]) (A := A)
    (fun k hk => by obtain rfl : k = 0 := (by omega); exact h2)
    (fun k hk => hw _ (List.mem_append_left _ List.mem_cons_self))
    (fun k hk => hw _ (List.mem_append_left _ (List.mem_cons_of_mem _ List.mem_cons_self)))
    (fun k hk => hw _ (List.mem_append_left _ (List.mem_cons_of_mem _ (List.mem_cons_of_mem _ List.mem_cons_self))))
    (fun k hk => by obtain rfl : k = 0 := (by omega); exact hw _ (List.mem_append_left _ (List.mem_cons_of_mem _ (List.mem_cons_of_mem _ (List.mem_cons_of_mem _ List.mem_cons_self)))))
    (fun k hk j hj => by
      obtain rfl : k = 0 := (by omega)
      exact hw _ (List.mem_append_right _ (List.mem_map.mpr ⟨j, List.mem_range.mpr hj, rfl⟩)))
    (fun k j hk hj hne => absurd (show k = j by omega) hne) hA
  have h3 := hS 0 (by omega)
  refine ⟨(adK 0, adV 0), ?_, h3.1, h3.2.1, h3.2.2.1, h3.2.2.2⟩
  rcases mi_al_ok i hi with h | h
  · rw [← h]
    exact hev 0 (by omega)
  · exact va_eqv (hp _ (List.mem_of_getElem? h)) (hev 0 (by omega))
theorem mi_tyof {ty : FieldType} (h : (Cond.arrayClass ty).before args s = true) : ∃ c : ClassId, ArrOfT s c ty ∧ s.vm.findClass ("[" ++ ty.toString) = some c := by
  obtain ⟨c, k, comp, h1, h2, h3⟩ := Cond.arrayClass_spec h
  exact ⟨c, fun N z => ⟨(fun k h => by cases h), k, h2, comp, h3⟩, h1⟩
theorem mi_aoof (h : (Cond.arrayOver (.object "java/lang/String")).before args s = true) : ∃ c : ClassId, ArrOfT s c (.object "java/lang/String") ∧ va_RA s c (.object "java/lang/String") := by
  obtain ⟨comp, c, k, h1, h2, h3, h4, h5⟩ := Cond.arrayOver_spec h
  exact ⟨c, fun N z => ⟨(fun k h => by cases h), k, h3, comp, h4⟩, k, comp, h3, h4, h1, h5⟩
theorem mi_ckof (hn : ∀ w ∈ mi_need, w.before args s = true) : ∃ D : va_G, ∀ (c : Nat) (q : vw_C), mi_cl[c]? = some q → u_Kn s q.1 q.2.1 q.2.2 (D.1 c) (D.2 c) := by
  have h0 : ∀ c : Nat, ∃ d : ClassId × (Nat → Nat), ∀ q : vw_C, mi_cl[c]? = some q → u_Kn s q.1 q.2.1 q.2.2 d.1 d.2 := fun c => by
    cases hq : mi_cl[c]? with
    | none => exact ⟨(0, fun _ => 0), fun q h => by cases h⟩
    | some q =>
      have hm := List.mem_of_getElem? hq
      obtain ⟨cC, iS, h⟩ := u_known (C := q.1) (T := q.2.1) (N := q.2.2) (n := q.2.2) hn (fun w hw => mi_in0 hm (List.mem_append_left _ hw)) (hn _ (mi_in0 hm (List.mem_append_right _ List.mem_cons_self)))
      exact ⟨(cC, iS), fun q' h' => by cases h'; exact h⟩
  obtain ⟨d, hd⟩ := Classical.axiomOfChoice h0
  exact ⟨(fun c => (d c).1, fun c => (d c).2), hd⟩
theorem mi_st0 {l : Launch} (h : l.flags = flags0) : l.stackTraces = false := by
  unfold Launch.stackTraces
  rw [h]
  decide +kernel
end MIE
