/-! ===== where the premises of the start lie (printed by wip/gen/prem.py) ===== -/
def mi_prem : List Cond := flatC (Cond.and given_1 narrow_1)
/-- a String constant: the constant of the same text that the premises speak of, the place of its words, the place of the word that both are one (0: it is itself) -/
def mi_sc : List (String × Nat × Nat × Nat) := [("TypeLoom$Tokens", 30, 69, 0), ("TypeLoom$Known", 39, 129, 0), ("TypeLoom$Known", 45, 136, 0), ("TypeLoom$Known", 47, 144, 0), ("TypeLoom$Known", 59, 152, 0), ("TypeLoom$Known", 61, 159, 0), ("TypeLoom$Tokens", 98, 167, 0), ("TypeLoom$Writer", 110, 182, 0), ("TypeLoom$Writer", 116, 190, 0), ("TypeLoom$Writer", 124, 199, 0), ("TypeLoom$Writer", 129, 206, 0), ("TypeLoom", 88, 214, 0), ("TypeLoom", 99, 255, 0), ("TypeLoom", 133, 295, 0), ("TypeLoom", 144, 339, 0), ("TypeLoom", 152, 370, 0), ("TypeLoom", 161, 408, 0), ("TypeLoom", 169, 440, 0), ("TypeLoom", 174, 466, 0), ("TypeLoom", 179, 505, 0), ("TypeLoomModel", 168, 547, 0), ("TypeLoomModel", 181, 556, 0), ("TypeLoomModel", 183, 564, 0), ("TypeLoomModel", 189, 573, 0), ("TypeLoomModel", 195, 580, 0), ("TypeLoomModel", 260, 587, 0), ("TypeLoomModel", 322, 603, 0), ("TypeLoomModel", 329, 611, 0), ("TypeLoomModel", 354, 616, 0), ("TypeLoomModel", 361, 621, 0), ("TypeLoomModel", 363, 626, 0), ("TypeLoomModel", 356, 632, 0), ("TypeLoomModel", 352, 637, 0), ("TypeLoomModel", 334, 642, 0), ("TypeLoomModel", 336, 647, 0), ("TypeLoomModel", 338, 654, 0), ("TypeLoomModel", 365, 659, 0), ("TypeLoomModel", 367, 666, 0), ("TypeLoomModel", 369, 672, 0), ("TypeLoomModel", 370, 679, 0), ("TypeLoomModel", 372, 685, 0), ("TypeLoomModel", 374, 693, 0), ("TypeLoomModel", 376, 701, 0), ("TypeLoomModel", 378, 709, 0), ("TypeLoomModel", 383, 715, 0), ("TypeLoomModel", 399, 722, 0), ("TypeLoomModel", 401, 730, 0), ("TypeLoomModel", 409, 739, 0), ("TypeLoomModel", 392, 744, 0), ("TypeLoomModel", 394, 749, 0), ("TypeLoomModel", 387, 754, 0), ("TypeLoomModel", 427, 759, 0), ("TypeLoomModel", 429, 768, 0), ("TypeLoomModel", 597, 778, 0), ("TypeLoomModel", 599, 786, 0)]
def mi_spl : List Nat := [237, 362, 368, 369, 396, 397, 752, 1412, 1419, 1431, 1436, 1545, 1592, 1616, 1631, 1632, 1645, 1663, 1671, 1679, 1722, 1745, 1746, 1751, 1752, 2006, 2017, 2044, 2053, 2066, 2067, 2068, 2069, 2070, 2071, 2072, 2077, 2078, 2079, 2080, 2081, 2082, 2083, 2084, 2089, 2110, 2111, 2112, 2113, 2114, 2115, 2128, 2129, 2354, 2355]
def mi_pc : Nat := 4
def mi_ps : Nat := 5
def mi_qpu : Nat := 9
def mi_pn : Nat := 10
def mi_pk : Nat := 12
/-- the reference's words: the place of each word, and the number of its String constant -/
def mi_ke : List (Nat × Nat) := [(14, 26), (15, 34), (16, 36), (17, 37), (18, 38), (19, 39), (20, 40), (21, 41), (22, 42), (23, 43), (24, 44), (25, 45), (26, 46)]
/-! ===== what is given at the law's entry is what a run is given ===== -/
theorem mi_nth {ws L : List Cond} (pl : List Nat) (h : L = pl.filterMap (fun i => ws[i]?)) : ∀ w ∈ L, w ∈ ws := fun w hw => by
  rw [h] at hw
  obtain ⟨i, -, hi⟩ := List.mem_filterMap.mp hw
  exact List.mem_of_getElem? hi
def mi_sr (i : Nat) : String × Nat × Nat × Nat := mi_sc.getD i ("", 0, 0, 0)
def mi_tm (i : Nat) : Term := .string (mi_sr i).1 (mi_sr i).2.1
def mi_own (i : Nat) : Term := .string (mi_sw.getD i ("", 0, "")).1 (mi_sw.getD i ("", 0, "")).2.1
def mi_vf (t : Term) : Term := .field t "java/lang/String" "value" "[B"
def mi_pS (t : Term) (b : List Int32) : List Cond := [.exactly t "java/lang/String", .eq (.field t "java/lang/String" "coder" "B") (.int 0), .arrayOf (mi_vf t) .byte, .eq (.length (mi_vf t)) (.int (Int32.ofNat b.length))] ++ (List.range b.length).map (fun j => .eq (.elem (mi_vf t) (.int (Int32.ofNat j))) (.int (b.getD j 0)))
def mi_kwT : Term := .static "TypeLoomModel" "KEYWORDS" "[Ljava/lang/String;"
set_option maxRecDepth 100000 in
theorem mi_pS_ok : ∀ i, i < mi_nS → mi_pS (mi_tm i) (mi_byt.getD i []) = (mi_prem.drop (mi_sr i).2.2.1).take (4 + (mi_byt.getD i []).length) ∧ (mi_byt.getD i []).length < 2 ^ 31 := by decide +kernel
set_option maxRecDepth 100000 in
theorem mi_al_ok : ∀ i, i < mi_nS → (mi_tm i = mi_own i ∨ mi_prem[(mi_sr i).2.2.2]? = some (.eq (mi_own i) (mi_tm i))) := by decide +kernel
set_option maxRecDepth 100000 in
theorem mi_sr_ok : mi_sw.map (fun x => Cond.stringRef x.1 x.2.1 x.2.2) = mi_spl.filterMap (fun i => lw_tbl[i]?) := by decide +kernel
set_option maxRecDepth 100000 in
theorem mi_kp_ok : mi_prem[mi_pk]? = some (.arrayOf mi_kwT (.object "java/lang/String")) ∧ mi_prem[mi_pk + 1]? = some (.eq (.length mi_kwT) (.int (Int32.ofNat 13))) ∧ (∀ j, j < 13 → (mi_ke.getD j (0, 0)).2 < mi_nS ∧ mi_prem[(mi_ke.getD j (0, 0)).1]? = some (.eq (.elem mi_kwT (.int (Int32.ofNat j))) (mi_own (mi_ke.getD j (0, 0)).2))) ∧
    mi_prem[mi_pc]? = some (.eq (.static "java/lang/String" "COMPACT_STRINGS" "Z") (.int 1)) ∧ mi_prem[mi_ps]? = some (.isRef (.static "jdk/internal/util/Preconditions" "SIOOBE_FORMATTER" "Ljava/util/function/BiFunction;")) ∧ mi_prem[mi_qpu]? = some (.isRef (.static Bundle.tN "UNASSIGNED_STACK" Bundle.steD)) ∧ mi_prem[mi_pn]? = some (.isRef (.static Bundle.tN "SUPPRESSED_SENTINEL" Bundle.listD)) := by decide +kernel
def mi_tw : List Cond := [.laysStatic "java/lang/String" "COMPACT_STRINGS" "Z", .initialized "java/lang/String", .laysStatic "jdk/internal/util/Preconditions" "SIOOBE_FORMATTER" "Ljava/util/function/BiFunction;", .initialized "jdk/internal/util/Preconditions", .laysStatic Bundle.tN "UNASSIGNED_STACK" Bundle.steD, .laysStatic Bundle.tN "SUPPRESSED_SENTINEL" Bundle.listD, .initialized Bundle.tN, .laysStatic "TypeLoomModel" "KEYWORDS" "[Ljava/lang/String;", .initialized "TypeLoomModel"]
set_option maxRecDepth 100000 in
theorem mi_tw_ok : ∀ w ∈ mi_tw, w ∈ lw_tbl := mi_nth [247, 184, 263, 186, 1531, 1533, 200, 2043, 199] (by decide +kernel)
section MIE
variable {args : Array Value} {s : State} {A : Nat → Prop}
theorem mi_strs (hp : ∀ w ∈ mi_prem, w.before args s = true) (hA : ∀ a : Nat, a < s.heap.size → ¬ A a) (i : Nat) (hi : i < mi_nS) : ∃ q : Nat × Nat, (mi_own i).eval args s none [] s = some (.ref q.1) ∧ va_O "java/lang/String" q.1 A s s.heap ∧ va_OF "java/lang/String" "coder" "B" (.int 0) q.1 A s s.heap ∧ va_OF "java/lang/String" "value" "[B" (.ref q.2) q.1 A s s.heap ∧ va_T .byte q.2 (mi_byt.getD i []).length (fun j => .int ((mi_byt.getD i []).getD j 0)) A s s.heap := by
  obtain ⟨h1, h2⟩ := mi_pS_ok i hi
  have hw : ∀ w ∈ mi_pS (mi_tm i) (mi_byt.getD i []), w.before args s = true := fun w hw => hp w (by
    rw [h1] at hw
    exact List.mem_of_mem_drop (List.mem_of_mem_take hw))
  obtain ⟨adK, adV, ⟨hS, -⟩, hev⟩ := vk_Sof (args := args) (s := s) (N := 1) (tm := fun _ => mi_tm i) (len := [(mi_byt.getD i []).length]) (byt := [mi_byt.getD i []]) (A := A)
    (fun k hk => by obtain rfl : k = 0 := (by omega); exact h2)
    (fun k hk => hw _ (List.mem_append_left _ List.mem_cons_self))
    (fun k hk => hw _ (List.mem_append_left _ (List.mem_cons_of_mem _ List.mem_cons_self)))
    (fun k hk => hw _ (List.mem_append_left _ (List.mem_cons_of_mem _ (List.mem_cons_of_mem _ List.mem_cons_self))))
    (fun k hk => by obtain rfl : k = 0 := (by omega); exact hw _ (List.mem_append_left _ (List.mem_cons_of_mem _ (List.mem_cons_of_mem _ (List.mem_cons_of_mem _ List.mem_cons_self)))))
    (fun k hk j hj => by
      obtain rfl : k = 0 := (by omega)
      exact hw _ (List.mem_append_right _ (List.mem_map.mpr ⟨j, List.mem_range.mpr hj, rfl⟩)))
    (fun k j hk hj hne => absurd (show k = j by omega) hne) hA
  have h3 := hS 0 (by omega)
  refine ⟨(adK 0, adV 0), ?_, h3.1, h3.2.1, h3.2.2.1, h3.2.2.2⟩
  rcases mi_al_ok i hi with h | h
  · rw [← h]
    exact hev 0 (by omega)
  · exact va_eqv (hp _ (List.mem_of_getElem? h)) (hev 0 (by omega))
theorem mi_kwof (hp : ∀ w ∈ mi_prem, w.before args s = true) (hA : ∀ a : Nat, a < s.heap.size → ¬ A a) : ∃ t : Nat, mi_kwT.eval args s none [] s = some (.ref t) ∧ ∃ f : Nat → Option Nat, va_T (.object "java/lang/String") t 13 (fun j => va_rf (f j)) A s s.heap := by
  have h0 : ∀ i : Nat, ∃ q : Nat, i < mi_nS → (mi_own i).eval args s none [] s = some (.ref q) := fun i => by
    by_cases hi : i < mi_nS
    · obtain ⟨q, hq, -⟩ := mi_strs hp hA i hi
      exact ⟨q.1, fun _ => hq⟩
    · exact ⟨0, fun h => absurd h hi⟩
  obtain ⟨ad, had⟩ := Classical.axiomOfChoice h0
  obtain ⟨k1, k2, k3, -⟩ := mi_kp_ok
  obtain ⟨t, ht, hT⟩ := va_Tof (f := fun j => va_rf (some (ad (mi_ke.getD j (0, 0)).2))) (A := A) (N := 13) (by decide) (hp _ (List.mem_of_getElem? k1)) (va_eqt (hp _ (List.mem_of_getElem? k2))) (fun j hj => va_eqv (hp _ (List.mem_of_getElem? (k3 j hj).2)) (had _ (k3 j hj).1)) hA
  exact ⟨t, ht, fun j => some (ad (mi_ke.getD j (0, 0)).2), hT⟩
theorem mi_tyof {ty : FieldType} (h : (Cond.arrayClass ty).before args s = true) : ∃ c : ClassId, ArrOfT s c ty ∧ s.vm.findClass ("[" ++ ty.toString) = some c := by
  obtain ⟨c, k, comp, h1, h2, h3⟩ := Cond.arrayClass_spec h
  exact ⟨c, fun N z => ⟨(fun k h => by cases h), k, h2, comp, h3⟩, h1⟩
theorem mi_ckof (hn : ∀ w ∈ mi_need, w.before args s = true) : ∃ D : va_G, ∀ (c : Nat) (q : vw_C), mi_cl[c]? = some q → u_Kn s q.1 q.2.1 q.2.2 (D.1 c) (D.2 c) := by
  have h0 : ∀ c : Nat, ∃ d : ClassId × (Nat → Nat), ∀ q : vw_C, mi_cl[c]? = some q → u_Kn s q.1 q.2.1 q.2.2 d.1 d.2 := fun c => by
    cases hq : mi_cl[c]? with
    | none => exact ⟨(0, fun _ => 0), fun q h => by cases h⟩
    | some q =>
      have hm := List.mem_of_getElem? hq
      obtain ⟨cC, iS, h⟩ := u_known (C := q.1) (T := q.2.1) (N := q.2.2) (n := q.2.2) hn (fun w hw => mi_in0 hm (List.mem_append_left _ hw)) (hn _ (mi_in0 hm (List.mem_append_right _ List.mem_cons_self)))
      exact ⟨(cC, iS), fun q' h' => by cases h'; exact h⟩
  obtain ⟨d, hd⟩ := Classical.axiomOfChoice h0
  exact ⟨(fun c => (d c).1, fun c => (d c).2), hd⟩
theorem mi_st0 {l : Launch} (h : l.flags = flags0) : l.stackTraces = false := by
  unfold Launch.stackTraces
  rw [h]
  decide +kernel
end MIE
