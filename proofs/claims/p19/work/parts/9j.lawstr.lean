/-! ===== the law's Strings (printed by wip/gen/p_law1.py) ===== -/
/-- the String q holds bs -/
def STR (X : mi_X) (q : Nat) (bs : List Int) : Prop := (q % 4 = 0 ∧ q / 4 < mi_nS) ∧ (∀ d h, mi_wp X (d + 3) mi_M186 0 [(0, .retAddr q)] [] h 0 0 (fun z => z = (.inl (some (.int (Int32.ofInt (bs.length : Int)))), h, 0, 0))) ∧ ∀ d h (j : Nat) (b : Int), bs[j]? = some b → mi_wp X (d + 3) mi_M180 0 [(0, .retAddr q), (1, .int (Int32.ofInt (j : Int)))] [] h 0 0 (fun z => z = (.inl (some (.int (Int32.ofInt b))), h, 0, 0))
theorem ls_rcq {q : Nat} {h : mi_H} (hq : q % 4 = 0 ∧ q / 4 < mi_nS) : mi_rc h (.retAddr q) mi_oS = true := by
  unfold mi_rc
  simp [hq]
theorem ls_si {X : mi_X} {d : Nat} {M M' : mi_M} {pc c s : Nat} {i : Instr} {l : mi_L} {st args rest : List Value} {h : mi_H} {Q : mi_Z → Prop} {x : Int} (ht : mi_lk (mi_th M) pc = none) (hi : mi_lk (mi_cd M) pc = some (i, 3)) (hp : mi_pure (mi_nL M) 3 i pc l st = none) (hv : mi_ret M i st = none) (hm : (if 3 = mi_ml2 i then mi_mem X M i pc st h c s else none) = none) (he : mi_easy M i st = none) (hcal : mi_cal M i st h = some (M', args, rest)) (hcat : mi_cat args ≤ mi_nL M') (hC : mi_wp X d M' 0 (lv_args 0 args) [] h 0 0 (fun z => z = (.inl (some (.int (Int32.ofInt x))), h, 0, 0)))
    (kk : mi_wp X (d + 1) M (pc + 3) l (.int (Int32.ofInt x) :: rest) h c s Q) : mi_wp X (d + 1) M pc l st h c s Q :=
  mi_wp_c1 ht hi hp hv hm he hcal hcat hC kk
/-- cell a is a row that holds a text: how many bytes, and the bytes -/
def LT (h : mi_H) (a n : Nat) (bs : List Int) : Prop := ∃ g, LA h a n g ∧ g 0 = (bs.length : Int) ∧ ∀ (i : Nat) (b : Int), bs[i]? = some b → g (i + 1) = b
theorem STR_19 {X : mi_X} : STR X 76 [40] := by
  refine ⟨by decide, fun d h => ⟨40, _, rfl, rfl⟩, fun d h j b hb => ?_⟩
  match j, hb with
  | 0, hb => cases hb; exact ⟨60, _, rfl, rfl⟩
  | n + 1, hb => cases hb
theorem STR_20 {X : mi_X} : STR X 80 [105, 110, 116] := by
  refine ⟨by decide, fun d h => ⟨40, _, rfl, rfl⟩, fun d h j b hb => ?_⟩
  match j, hb with
  | 0, hb => cases hb; exact ⟨60, _, rfl, rfl⟩
  | 1, hb => cases hb; exact ⟨60, _, rfl, rfl⟩
  | 2, hb => cases hb; exact ⟨60, _, rfl, rfl⟩
  | n + 3, hb => cases hb
theorem STR_21 {X : mi_X} : STR X 84 [98, 111, 111, 108] := by
  refine ⟨by decide, fun d h => ⟨40, _, rfl, rfl⟩, fun d h j b hb => ?_⟩
  match j, hb with
  | 0, hb => cases hb; exact ⟨60, _, rfl, rfl⟩
  | 1, hb => cases hb; exact ⟨60, _, rfl, rfl⟩
  | 2, hb => cases hb; exact ⟨60, _, rfl, rfl⟩
  | 3, hb => cases hb; exact ⟨60, _, rfl, rfl⟩
  | n + 4, hb => cases hb
theorem STR_22 {X : mi_X} : STR X 88 [39, 97] := by
  refine ⟨by decide, fun d h => ⟨40, _, rfl, rfl⟩, fun d h j b hb => ?_⟩
  match j, hb with
  | 0, hb => cases hb; exact ⟨60, _, rfl, rfl⟩
  | 1, hb => cases hb; exact ⟨60, _, rfl, rfl⟩
  | n + 2, hb => cases hb
theorem STR_23 {X : mi_X} : STR X 92 [39, 98] := by
  refine ⟨by decide, fun d h => ⟨40, _, rfl, rfl⟩, fun d h j b hb => ?_⟩
  match j, hb with
  | 0, hb => cases hb; exact ⟨60, _, rfl, rfl⟩
  | 1, hb => cases hb; exact ⟨60, _, rfl, rfl⟩
  | n + 2, hb => cases hb
theorem STR_24 {X : mi_X} : STR X 96 [39, 99] := by
  refine ⟨by decide, fun d h => ⟨40, _, rfl, rfl⟩, fun d h j b hb => ?_⟩
  match j, hb with
  | 0, hb => cases hb; exact ⟨60, _, rfl, rfl⟩
  | 1, hb => cases hb; exact ⟨60, _, rfl, rfl⟩
  | n + 2, hb => cases hb
theorem STR_25 {X : mi_X} : STR X 100 [39, 100] := by
  refine ⟨by decide, fun d h => ⟨40, _, rfl, rfl⟩, fun d h j b hb => ?_⟩
  match j, hb with
  | 0, hb => cases hb; exact ⟨60, _, rfl, rfl⟩
  | 1, hb => cases hb; exact ⟨60, _, rfl, rfl⟩
  | n + 2, hb => cases hb
theorem STR_26 {X : mi_X} : STR X 104 [39, 101] := by
  refine ⟨by decide, fun d h => ⟨40, _, rfl, rfl⟩, fun d h j b hb => ?_⟩
  match j, hb with
  | 0, hb => cases hb; exact ⟨60, _, rfl, rfl⟩
  | 1, hb => cases hb; exact ⟨60, _, rfl, rfl⟩
  | n + 2, hb => cases hb
theorem STR_27 {X : mi_X} : STR X 108 [108, 105, 115, 116, 32] := by
  refine ⟨by decide, fun d h => ⟨40, _, rfl, rfl⟩, fun d h j b hb => ?_⟩
  match j, hb with
  | 0, hb => cases hb; exact ⟨60, _, rfl, rfl⟩
  | 1, hb => cases hb; exact ⟨60, _, rfl, rfl⟩
  | 2, hb => cases hb; exact ⟨60, _, rfl, rfl⟩
  | 3, hb => cases hb; exact ⟨60, _, rfl, rfl⟩
  | 4, hb => cases hb; exact ⟨60, _, rfl, rfl⟩
  | n + 5, hb => cases hb
theorem STR_28 {X : mi_X} : STR X 112 [32, 42, 32] := by
  refine ⟨by decide, fun d h => ⟨40, _, rfl, rfl⟩, fun d h j b hb => ?_⟩
  match j, hb with
  | 0, hb => cases hb; exact ⟨60, _, rfl, rfl⟩
  | 1, hb => cases hb; exact ⟨60, _, rfl, rfl⟩
  | 2, hb => cases hb; exact ⟨60, _, rfl, rfl⟩
  | n + 3, hb => cases hb
theorem STR_29 {X : mi_X} : STR X 116 [32, 45, 62, 32] := by
  refine ⟨by decide, fun d h => ⟨40, _, rfl, rfl⟩, fun d h j b hb => ?_⟩
  match j, hb with
  | 0, hb => cases hb; exact ⟨60, _, rfl, rfl⟩
  | 1, hb => cases hb; exact ⟨60, _, rfl, rfl⟩
  | 2, hb => cases hb; exact ⟨60, _, rfl, rfl⟩
  | 3, hb => cases hb; exact ⟨60, _, rfl, rfl⟩
  | n + 4, hb => cases hb
theorem STR_30 {X : mi_X} : STR X 120 [41] := by
  refine ⟨by decide, fun d h => ⟨40, _, rfl, rfl⟩, fun d h j b hb => ?_⟩
  match j, hb with
  | 0, hb => cases hb; exact ⟨60, _, rfl, rfl⟩
  | n + 1, hb => cases hb
theorem STR_31 {X : mi_X} : STR X 124 [100, 101, 102, 32, 100] := by
  refine ⟨by decide, fun d h => ⟨40, _, rfl, rfl⟩, fun d h j b hb => ?_⟩
  match j, hb with
  | 0, hb => cases hb; exact ⟨60, _, rfl, rfl⟩
  | 1, hb => cases hb; exact ⟨60, _, rfl, rfl⟩
  | 2, hb => cases hb; exact ⟨60, _, rfl, rfl⟩
  | 3, hb => cases hb; exact ⟨60, _, rfl, rfl⟩
  | 4, hb => cases hb; exact ⟨60, _, rfl, rfl⟩
  | n + 5, hb => cases hb
theorem STR_32 {X : mi_X} : STR X 128 [32, 58, 32] := by
  refine ⟨by decide, fun d h => ⟨40, _, rfl, rfl⟩, fun d h j b hb => ?_⟩
  match j, hb with
  | 0, hb => cases hb; exact ⟨60, _, rfl, rfl⟩
  | 1, hb => cases hb; exact ⟨60, _, rfl, rfl⟩
  | 2, hb => cases hb; exact ⟨60, _, rfl, rfl⟩
  | n + 3, hb => cases hb
theorem STR_33 {X : mi_X} : STR X 132 [32, 61, 32, 100] := by
  refine ⟨by decide, fun d h => ⟨40, _, rfl, rfl⟩, fun d h j b hb => ?_⟩
  match j, hb with
  | 0, hb => cases hb; exact ⟨60, _, rfl, rfl⟩
  | 1, hb => cases hb; exact ⟨60, _, rfl, rfl⟩
  | 2, hb => cases hb; exact ⟨60, _, rfl, rfl⟩
  | 3, hb => cases hb; exact ⟨60, _, rfl, rfl⟩
  | n + 4, hb => cases hb
theorem STR_34 {X : mi_X} : STR X 136 [59, 32] := by
  refine ⟨by decide, fun d h => ⟨40, _, rfl, rfl⟩, fun d h j b hb => ?_⟩
  match j, hb with
  | 0, hb => cases hb; exact ⟨60, _, rfl, rfl⟩
  | 1, hb => cases hb; exact ⟨60, _, rfl, rfl⟩
  | n + 2, hb => cases hb
theorem STR_35 {X : mi_X} : STR X 140 [100, 101, 102, 32, 101, 32, 61, 32, 40, 100, 48, 44, 32, 100, 49, 41, 59, 32, 100, 101, 102, 32, 105, 32, 61, 32, 102, 117, 110, 32, 120, 32, 45, 62, 32, 100, 50, 59, 32, 100, 101, 102, 32, 117, 32, 61, 32, 108, 101, 116, 32, 118, 32, 61, 32, 100, 48, 32, 105, 110, 32, 40, 118, 44, 32, 118, 41, 59] := by
  refine ⟨by decide, fun d h => ⟨40, _, rfl, rfl⟩, fun d h j b hb => ?_⟩
  match j, hb with
  | 0, hb => cases hb; exact ⟨60, _, rfl, rfl⟩
  | 1, hb => cases hb; exact ⟨60, _, rfl, rfl⟩
  | 2, hb => cases hb; exact ⟨60, _, rfl, rfl⟩
  | 3, hb => cases hb; exact ⟨60, _, rfl, rfl⟩
  | 4, hb => cases hb; exact ⟨60, _, rfl, rfl⟩
  | 5, hb => cases hb; exact ⟨60, _, rfl, rfl⟩
  | 6, hb => cases hb; exact ⟨60, _, rfl, rfl⟩
  | 7, hb => cases hb; exact ⟨60, _, rfl, rfl⟩
  | 8, hb => cases hb; exact ⟨60, _, rfl, rfl⟩
  | 9, hb => cases hb; exact ⟨60, _, rfl, rfl⟩
  | 10, hb => cases hb; exact ⟨60, _, rfl, rfl⟩
  | 11, hb => cases hb; exact ⟨60, _, rfl, rfl⟩
  | 12, hb => cases hb; exact ⟨60, _, rfl, rfl⟩
  | 13, hb => cases hb; exact ⟨60, _, rfl, rfl⟩
  | 14, hb => cases hb; exact ⟨60, _, rfl, rfl⟩
  | 15, hb => cases hb; exact ⟨60, _, rfl, rfl⟩
  | 16, hb => cases hb; exact ⟨60, _, rfl, rfl⟩
  | 17, hb => cases hb; exact ⟨60, _, rfl, rfl⟩
  | 18, hb => cases hb; exact ⟨60, _, rfl, rfl⟩
  | 19, hb => cases hb; exact ⟨60, _, rfl, rfl⟩
  | 20, hb => cases hb; exact ⟨60, _, rfl, rfl⟩
  | 21, hb => cases hb; exact ⟨60, _, rfl, rfl⟩
  | 22, hb => cases hb; exact ⟨60, _, rfl, rfl⟩
  | 23, hb => cases hb; exact ⟨60, _, rfl, rfl⟩
  | 24, hb => cases hb; exact ⟨60, _, rfl, rfl⟩
  | 25, hb => cases hb; exact ⟨60, _, rfl, rfl⟩
  | 26, hb => cases hb; exact ⟨60, _, rfl, rfl⟩
  | 27, hb => cases hb; exact ⟨60, _, rfl, rfl⟩
  | 28, hb => cases hb; exact ⟨60, _, rfl, rfl⟩
  | 29, hb => cases hb; exact ⟨60, _, rfl, rfl⟩
  | 30, hb => cases hb; exact ⟨60, _, rfl, rfl⟩
  | 31, hb => cases hb; exact ⟨60, _, rfl, rfl⟩
  | 32, hb => cases hb; exact ⟨60, _, rfl, rfl⟩
  | 33, hb => cases hb; exact ⟨60, _, rfl, rfl⟩
  | 34, hb => cases hb; exact ⟨60, _, rfl, rfl⟩
  | 35, hb => cases hb; exact ⟨60, _, rfl, rfl⟩
  | 36, hb => cases hb; exact ⟨60, _, rfl, rfl⟩
  | 37, hb => cases hb; exact ⟨60, _, rfl, rfl⟩
  | 38, hb => cases hb; exact ⟨60, _, rfl, rfl⟩
  | 39, hb => cases hb; exact ⟨60, _, rfl, rfl⟩
  | 40, hb => cases hb; exact ⟨60, _, rfl, rfl⟩
  | 41, hb => cases hb; exact ⟨60, _, rfl, rfl⟩
  | 42, hb => cases hb; exact ⟨60, _, rfl, rfl⟩
  | 43, hb => cases hb; exact ⟨60, _, rfl, rfl⟩
  | 44, hb => cases hb; exact ⟨60, _, rfl, rfl⟩
  | 45, hb => cases hb; exact ⟨60, _, rfl, rfl⟩
  | 46, hb => cases hb; exact ⟨60, _, rfl, rfl⟩
  | 47, hb => cases hb; exact ⟨60, _, rfl, rfl⟩
  | 48, hb => cases hb; exact ⟨60, _, rfl, rfl⟩
  | 49, hb => cases hb; exact ⟨60, _, rfl, rfl⟩
  | 50, hb => cases hb; exact ⟨60, _, rfl, rfl⟩
  | 51, hb => cases hb; exact ⟨60, _, rfl, rfl⟩
  | 52, hb => cases hb; exact ⟨60, _, rfl, rfl⟩
  | 53, hb => cases hb; exact ⟨60, _, rfl, rfl⟩
  | 54, hb => cases hb; exact ⟨60, _, rfl, rfl⟩
  | 55, hb => cases hb; exact ⟨60, _, rfl, rfl⟩
  | 56, hb => cases hb; exact ⟨60, _, rfl, rfl⟩
  | 57, hb => cases hb; exact ⟨60, _, rfl, rfl⟩
  | 58, hb => cases hb; exact ⟨60, _, rfl, rfl⟩
  | 59, hb => cases hb; exact ⟨60, _, rfl, rfl⟩
  | 60, hb => cases hb; exact ⟨60, _, rfl, rfl⟩
  | 61, hb => cases hb; exact ⟨60, _, rfl, rfl⟩
  | 62, hb => cases hb; exact ⟨60, _, rfl, rfl⟩
  | 63, hb => cases hb; exact ⟨60, _, rfl, rfl⟩
  | 64, hb => cases hb; exact ⟨60, _, rfl, rfl⟩
  | 65, hb => cases hb; exact ⟨60, _, rfl, rfl⟩
  | 66, hb => cases hb; exact ⟨60, _, rfl, rfl⟩
  | 67, hb => cases hb; exact ⟨60, _, rfl, rfl⟩
  | n + 68, hb => cases hb
theorem STR_36 {X : mi_X} : STR X 144 [100, 48] := by
  refine ⟨by decide, fun d h => ⟨40, _, rfl, rfl⟩, fun d h j b hb => ?_⟩
  match j, hb with
  | 0, hb => cases hb; exact ⟨60, _, rfl, rfl⟩
  | 1, hb => cases hb; exact ⟨60, _, rfl, rfl⟩
  | n + 2, hb => cases hb
theorem STR_37 {X : mi_X} : STR X 148 [100, 49] := by
  refine ⟨by decide, fun d h => ⟨40, _, rfl, rfl⟩, fun d h j b hb => ?_⟩
  match j, hb with
  | 0, hb => cases hb; exact ⟨60, _, rfl, rfl⟩
  | 1, hb => cases hb; exact ⟨60, _, rfl, rfl⟩
  | n + 2, hb => cases hb
theorem STR_38 {X : mi_X} : STR X 152 [100, 50] := by
  refine ⟨by decide, fun d h => ⟨40, _, rfl, rfl⟩, fun d h j b hb => ?_⟩
  match j, hb with
  | 0, hb => cases hb; exact ⟨60, _, rfl, rfl⟩
  | 1, hb => cases hb; exact ⟨60, _, rfl, rfl⟩
  | n + 2, hb => cases hb
theorem STR_39 {X : mi_X} : STR X 156 [101] := by
  refine ⟨by decide, fun d h => ⟨40, _, rfl, rfl⟩, fun d h j b hb => ?_⟩
  match j, hb with
  | 0, hb => cases hb; exact ⟨60, _, rfl, rfl⟩
  | n + 1, hb => cases hb
theorem STR_40 {X : mi_X} : STR X 160 [105] := by
  refine ⟨by decide, fun d h => ⟨40, _, rfl, rfl⟩, fun d h j b hb => ?_⟩
  match j, hb with
  | 0, hb => cases hb; exact ⟨60, _, rfl, rfl⟩
  | n + 1, hb => cases hb
theorem STR_41 {X : mi_X} : STR X 164 [117] := by
  refine ⟨by decide, fun d h => ⟨40, _, rfl, rfl⟩, fun d h j b hb => ?_⟩
  match j, hb with
  | 0, hb => cases hb; exact ⟨60, _, rfl, rfl⟩
  | n + 1, hb => cases hb
theorem STR_42 {X : mi_X} : STR X 168 [32, 100, 101, 102, 32, 119, 32, 58, 32] := by
  refine ⟨by decide, fun d h => ⟨40, _, rfl, rfl⟩, fun d h j b hb => ?_⟩
  match j, hb with
  | 0, hb => cases hb; exact ⟨60, _, rfl, rfl⟩
  | 1, hb => cases hb; exact ⟨60, _, rfl, rfl⟩
  | 2, hb => cases hb; exact ⟨60, _, rfl, rfl⟩
  | 3, hb => cases hb; exact ⟨60, _, rfl, rfl⟩
  | 4, hb => cases hb; exact ⟨60, _, rfl, rfl⟩
  | 5, hb => cases hb; exact ⟨60, _, rfl, rfl⟩
  | 6, hb => cases hb; exact ⟨60, _, rfl, rfl⟩
  | 7, hb => cases hb; exact ⟨60, _, rfl, rfl⟩
  | 8, hb => cases hb; exact ⟨60, _, rfl, rfl⟩
  | n + 9, hb => cases hb
theorem STR_43 {X : mi_X} : STR X 172 [32, 61, 32, 101, 59] := by
  refine ⟨by decide, fun d h => ⟨40, _, rfl, rfl⟩, fun d h j b hb => ?_⟩
  match j, hb with
  | 0, hb => cases hb; exact ⟨60, _, rfl, rfl⟩
  | 1, hb => cases hb; exact ⟨60, _, rfl, rfl⟩
  | 2, hb => cases hb; exact ⟨60, _, rfl, rfl⟩
  | 3, hb => cases hb; exact ⟨60, _, rfl, rfl⟩
  | 4, hb => cases hb; exact ⟨60, _, rfl, rfl⟩
  | n + 5, hb => cases hb
