/-! ===== the law's below, cell, put (printed by wip/gen/p_law2.py) ===== -/
theorem i32_and31 (v : Int32) : ∃ a : Int, v &&& Int32.ofInt 2147483647 = Int32.ofInt a ∧ 0 ≤ a ∧ a < 2147483648 := by
  have hm : (v &&& Int32.ofInt 2147483647).toBitVec.msb = false := by
    rw [Int32.toBitVec_and, BitVec.msb_and, show (Int32.ofInt 2147483647).toBitVec.msb = false by decide, Bool.and_false]
  have h1 : (v &&& Int32.ofInt 2147483647).toInt = (((v &&& Int32.ofInt 2147483647).toBitVec.toNat : Nat) : Int) := by
    show (v &&& Int32.ofInt 2147483647).toBitVec.toInt = _
    rw [BitVec.toInt_eq_msb_cond, hm]
    simp
  have h2 := Int32.toInt_lt (v &&& Int32.ofInt 2147483647)
  exact ⟨(v &&& Int32.ofInt 2147483647).toInt, (Int32.ofInt_toInt _).symm, by rw [h1]; exact Int.natCast_nonneg _, by omega⟩
theorem i32_div {a m : Int} (a0 : 0 ≤ a) (a1 : a < 2147483648) (m0 : 0 < m) (m1 : m < 2147483648) : Int32.ofInt a / Int32.ofInt m = Int32.ofInt (a / m) := by
  have q0 : 0 ≤ a / m := Int.ediv_nonneg a0 (Int.le_of_lt m0)
  have q1 : a / m ≤ a := Int.ediv_le_self m a0
  apply Int32.toInt_inj.mp
  rw [Int32.toInt_div, mi_tI_of ⟨by omega, by omega⟩, mi_tI_of ⟨by omega, by omega⟩, mi_tI_of ⟨by omega, by omega⟩, Int.tdiv_eq_ediv_of_nonneg a0, Int.bmod_def]
  generalize a / m = q at *
  omega
section LS
variable {X : mi_X} {d : Nat} {M : mi_M} {pc pc' len c s : Nat} {i : Instr} {l : mi_L} {r st : List Value} {h : mi_H} {Q : mi_Z → Prop} {a m : Int}
theorem ls_div (a0 : 0 ≤ a ∧ a < 2147483648) (m0 : 0 < m ∧ m < 2147483648) (ht : mi_lk (mi_th M) pc = none) (hi : mi_lk (mi_cd M) pc = some (.idiv, 1)) (kk : mi_wp X d M (pc + 1) l (.int (Int32.ofInt (a / m)) :: r) h c s Q) : mi_wp X d M pc l (.int (Int32.ofInt m) :: .int (Int32.ofInt a) :: r) h c s Q := by
  have hne : Int32.ofInt m ≠ 0 := fun e => by
    have := congrArg Int32.toInt e
    rw [mi_tI_of ⟨by omega, by omega⟩] at this
    have h0 : (0 : Int32).toInt = 0 := by decide
    omega
  refine mi_wp_p (pc' := pc + 1) (l' := l) (st' := .int (Int32.ofInt (a / m)) :: r) ht hi ?_ kk
  rw [← i32_div a0.1 a0.2 m0.1 m0.2]
  have e : mi_ii (fun x y => if y = 0 then none else some (.int (x / y))) (pc + 1) l (.int (Int32.ofInt m) :: .int (Int32.ofInt a) :: r) = some (pc + 1, l, .int (Int32.ofInt a / Int32.ofInt m) :: r) := by
    unfold mi_ii
    dsimp only
    rw [if_neg hne]
  exact e
theorem ls_rem (a0 : 0 ≤ a ∧ a < 2147483648) (m0 : 0 < m ∧ m < 2147483648) (ht : mi_lk (mi_th M) pc = none) (hi : mi_lk (mi_cd M) pc = some (.irem, 1)) (kk : mi_wp X d M (pc + 1) l (.int (Int32.ofInt (a % m)) :: r) h c s Q) : mi_wp X d M pc l (.int (Int32.ofInt m) :: .int (Int32.ofInt a) :: r) h c s Q := by
  have hne : Int32.ofInt m ≠ 0 := fun e => by
    have := congrArg Int32.toInt e
    rw [mi_tI_of ⟨by omega, by omega⟩] at this
    have h0 : (0 : Int32).toInt = 0 := by decide
    omega
  refine mi_wp_p (pc' := pc + 1) (l' := l) (st' := .int (Int32.ofInt (a % m)) :: r) ht hi ?_ kk
  have e : mi_ii (fun x y => if y = 0 then none else some (.int (x - x / y * y))) (pc + 1) l (.int (Int32.ofInt m) :: .int (Int32.ofInt a) :: r) = some (pc + 1, l, .int (Int32.ofInt (a % m)) :: r) := by
    unfold mi_ii
    dsimp only
    rw [if_neg hne, i32_div a0.1 a0.2 m0.1 m0.2, ← Int32.ofInt_mul, ← Int32.ofInt_sub, show a % m = a - a / m * m by rw [Int.emod_def, Int.mul_comm]]
  exact e
/-- an instruction that leaves some number -/
theorem ls_any {y : Int32} (ht : mi_lk (mi_th M) pc = none) (hi : mi_lk (mi_cd M) pc = some (i, len)) (hp : mi_pure (mi_nL M) len i pc l st = some (pc', l, .int y :: r)) (kk : ∀ x, y = Int32.ofInt x → mi_wp X d M pc' l (.int (Int32.ofInt x) :: r) h c s Q) : mi_wp X d M pc l st h c s Q := by
  refine mi_wp_p ht hi hp ?_
  rw [← Int32.ofInt_toInt y]
  exact kk _ (Int32.ofInt_toInt y).symm
end LS
section LW
variable {X : mi_X} {d : Nat} {h : mi_H} {a n q : Nat} {bs bs' : List Int}
theorem lw_below {v m : Int} (m0 : 0 < m ∧ m < 100) : LCi X d mi_M169 [(0, .int (Int32.ofInt v)), (1, .int (Int32.ofInt m))] h 0 0 (fun x h' => (0 ≤ x ∧ x < m) ∧ h' = h) := by
  obtain ⟨a, e, a0, a1⟩ := i32_and31 (Int32.ofInt v)
  unfold LCi LC
  refine mi_wp_p (pc' := 1) (st' := [.int (Int32.ofInt v)]) rfl rfl rfl ?_
  refine mi_s_ldc (e := 2147483647) rfl rfl rfl (by decide +kernel) ?_
  refine mi_wp_p (pc' := 4) (st' := [.int (Int32.ofInt v &&& Int32.ofInt 2147483647)]) rfl rfl rfl ?_
  rw [e]
  refine mi_wp_p (pc' := 5) (st' := [.int (Int32.ofInt m), .int (Int32.ofInt a)]) rfl rfl rfl ?_
  refine ls_rem ⟨a0, a1⟩ ⟨m0.1, by omega⟩ rfl rfl ?_
  exact ls_ri rfl rfl rfl (mi_ret_i rfl) (Nat.le_refl _) (Nat.le_refl _) ⟨⟨Int.emod_nonneg _ (by omega), Int.emod_lt_of_pos _ m0.1⟩, rfl⟩
theorem lw_cell {N : Nat} {xs : Nat → Int32} {k : Int} (hN : N ≤ 2147483647) (k0 : 0 ≤ k) (k1 : k < 1000) : LCi (some (N, xs)) d mi_M170 [(0, .retAddr 3), (1, .int (Int32.ofInt k))] h 0 0 (fun x h' => h' = h) := by
  unfold LCi LC
  refine mi_wp_p (pc' := 1) (st' := [.int (Int32.ofInt k)]) rfl rfl rfl ?_
  refine mi_wp_p (pc' := 2) (st' := [.retAddr 3, .int (Int32.ofInt k)]) rfl rfl rfl ?_
  refine mi_wp_slen rfl rfl ?_
  rw [show Int32.ofNat N = Int32.ofInt (N : Int) by rfl]
  refine mi_s_if2 (t := 12) rfl rfl rfl (by unfold mi_R; omega) (by unfold mi_R; omega) (fun _ => ?_) (fun c => ?_)
  · refine mi_s_ldc (e := 790386105) rfl rfl rfl (by decide +kernel) ?_
    refine mi_wp_p (pc' := 15) (st' := [.int (Int32.ofInt k), .int (Int32.ofInt 790386105)]) rfl rfl rfl ?_
    refine mi_wp_p (pc' := 16) (st' := [.int (Int32.ofInt 3), .int (Int32.ofInt k), .int (Int32.ofInt 790386105)]) rfl rfl rfl ?_
    refine mi_s_add rfl rfl ?_
    refine mi_s_mul rfl rfl ?_
    exact ls_ri rfl rfl rfl (mi_ret_i rfl) (Nat.le_refl _) (Nat.le_refl _) rfl
  · have c' : ¬ (N : Int) ≤ k := c
    refine mi_wp_p (pc' := 7) (st' := [.retAddr 3]) rfl rfl rfl ?_
    refine mi_wp_p (pc' := 8) (st' := [.int (Int32.ofInt k), .retAddr 3]) rfl rfl rfl ?_
    refine mi_wp_sld rfl rfl (mi_inb_of (by rw [mi_tI_of ⟨by omega, by omega⟩]; exact k0) (by rw [mi_tI_of ⟨by omega, by omega⟩]; omega)) rfl rfl ?_
    rw [← Int32.ofInt_toInt (xs _)]
    refine mi_wp_p (pc' := 18) (st' := [.int (Int32.ofInt _)]) rfl rfl rfl ?_
    exact ls_ri rfl rfl rfl (mi_ret_i rfl) (Nat.le_refl _) (Nat.le_refl _) rfl
theorem put_turn {g : Nat → Int} {k : Nat} {b : Int} {h0 h : mi_H} {c s : Nat} {Q : mi_Z → Prop} (Hs : STR X q bs') (A : LA h a n g) (h0_ : g 0 = (bs.length : Int)) (hb : bs'[k]? = some b) (hl : bs.length + bs'.length < n) (hn : n ≤ 100000) (fr : LF h0 h [a])
    (kk : ∀ h' g', LA h' a n g' → LF h0 h' [a] → g' = va_up g (1 + (bs.length : Int) + (k : Int)).toNat b → mi_wp X (d + 4) mi_M175 2 [(2, .int (Int32.ofInt ((k : Int) + 1))), (0, .ref a), (1, .retAddr q)] [] h' c s Q) : mi_wp X (d + 4) mi_M175 2 [(2, .int (Int32.ofInt (k : Int))), (0, .ref a), (1, .retAddr q)] [] h c s Q := by
  have hk : k < bs'.length := (List.getElem?_eq_some_iff.mp hb).1
  refine mi_wp_p (pc' := 3) (st' := [.int (Int32.ofInt (k : Int))]) rfl rfl rfl ?_
  refine mi_wp_p (pc' := 4) (st' := [.retAddr q, .int (Int32.ofInt (k : Int))]) rfl rfl rfl ?_
  refine ls_si rfl rfl rfl rfl rfl rfl (mi_cal_v2 (np := 0) (args := [.retAddr q]) (rest := [.int (Int32.ofInt (k : Int))]) rfl rfl rfl rfl rfl (Nat.le_of_ble_eq_true rfl) rfl rfl (Nat.le_of_ble_eq_true rfl) (ls_rcq Hs.1)) (Nat.le_of_ble_eq_true rfl) (Hs.2.1 d _) ?_
  refine mi_s_if2 (t := 30) rfl rfl rfl (by unfold mi_R; omega) (by unfold mi_R; omega) (fun hc_ => absurd (show (bs'.length : Int) ≤ (k : Int) from hc_) (by omega)) (fun _ => ?_)
  refine mi_wp_p (pc' := 11) (st' := [.ref a]) rfl rfl rfl ?_
  refine mi_wp_p (pc' := 12) (st' := [.int (Int32.ofInt 1), .ref a]) rfl rfl rfl ?_
  refine mi_wp_p (pc' := 13) (st' := [.ref a, .int (Int32.ofInt 1), .ref a]) rfl rfl rfl ?_
  refine mi_wp_p (pc' := 14) (st' := [.int (Int32.ofInt 0), .ref a, .int (Int32.ofInt 1), .ref a]) rfl rfl rfl ?_
  refine ls_ald (x := (bs.length : Int)) A rfl rfl (by omega) (by omega) (by omega) h0_ ?_
  refine mi_s_add rfl rfl ?_
  refine mi_wp_p (pc' := 17) (st' := [.int (Int32.ofInt (k : Int)), .int (Int32.ofInt (1 + (bs.length : Int))), .ref a]) rfl rfl rfl ?_
  refine mi_s_add rfl rfl ?_
  refine mi_wp_p (pc' := 19) (st' := [.retAddr q, .int (Int32.ofInt ((1 + (bs.length : Int)) + (k : Int))), .ref a]) rfl rfl rfl ?_
  refine mi_wp_p (pc' := 20) (st' := [.int (Int32.ofInt (k : Int)), .retAddr q, .int (Int32.ofInt ((1 + (bs.length : Int)) + (k : Int))), .ref a]) rfl rfl rfl ?_
  refine ls_si rfl rfl rfl rfl rfl rfl (mi_cal_v2 (np := 1) (args := [.retAddr q, .int (Int32.ofInt (k : Int))]) (rest := [.int (Int32.ofInt ((1 + (bs.length : Int)) + (k : Int))), .ref a]) rfl rfl rfl rfl rfl (Nat.le_of_ble_eq_true rfl) rfl rfl (Nat.le_of_ble_eq_true rfl) (ls_rcq Hs.1)) (Nat.le_of_ble_eq_true rfl) (Hs.2.2 d _ k b hb) ?_
  refine ls_ast A rfl rfl (by omega) (by omega) (by omega) ?_
  intro h1_ A f
  replace fr := LF_tr1 fr f (Or.inl (by simp))
  refine mi_s_inc (l' := [(2, .int (Int32.ofInt ((k : Int) + 1))), (0, .ref a), (1, .retAddr q)]) rfl rfl rfl (by decide) rfl ?_
  refine mi_wp_p (pc' := 2) rfl rfl rfl ?_
  exact kk _ _ A fr rfl
theorem put_end {g : Nat → Int} {h0 h : mi_H} {P : mi_H → Prop} (Hs : STR X q bs') (A : LA h a n g) (h0_ : g 0 = (bs.length : Int)) (hl : bs.length + bs'.length < n) (hn : n ≤ 100000) (fr : LF h0 h [a])
    (kk : ∀ h' g', LA h' a n g' → LF h0 h' [a] → g' = va_up g (0 : Int).toNat ((bs.length : Int) + (bs'.length : Int)) → P h') : mi_wp X (d + 4) mi_M175 2 [(2, .int (Int32.ofInt (bs'.length : Int))), (0, .ref a), (1, .retAddr q)] [] h 0 0 (fun z => ∃ v h' c' s', z = (.inl v, h', c', s') ∧ c' ≤ 0 ∧ s' ≤ 0 ∧ v = none ∧ P h') := by
  refine mi_wp_p (pc' := 3) (st' := [.int (Int32.ofInt (bs'.length : Int))]) rfl rfl rfl ?_
  refine mi_wp_p (pc' := 4) (st' := [.retAddr q, .int (Int32.ofInt (bs'.length : Int))]) rfl rfl rfl ?_
  refine ls_si rfl rfl rfl rfl rfl rfl (mi_cal_v2 (np := 0) (args := [.retAddr q]) (rest := [.int (Int32.ofInt (bs'.length : Int))]) rfl rfl rfl rfl rfl (Nat.le_of_ble_eq_true rfl) rfl rfl (Nat.le_of_ble_eq_true rfl) (ls_rcq Hs.1)) (Nat.le_of_ble_eq_true rfl) (Hs.2.1 d _) ?_
  refine mi_s_if2 (t := 30) rfl rfl rfl (by unfold mi_R; omega) (by unfold mi_R; omega) (fun _ => ?_) (fun hc_ => absurd (show (bs'.length : Int) ≤ (bs'.length : Int) by omega) hc_)
  refine mi_wp_p (pc' := 31) (st' := [.ref a]) rfl rfl rfl ?_
  refine mi_wp_p (pc' := 32) (st' := [.int (Int32.ofInt 0), .ref a]) rfl rfl rfl ?_
  refine mi_wp_p (pc' := 33) (st' := [.int (Int32.ofInt 0), .ref a, .int (Int32.ofInt 0), .ref a]) rfl rfl rfl ?_
  refine ls_ald (x := (bs.length : Int)) A rfl rfl (by omega) (by omega) (by omega) h0_ ?_
  refine mi_wp_p (pc' := 35) (st' := [.retAddr q, .int (Int32.ofInt (bs.length : Int)), .int (Int32.ofInt 0), .ref a]) rfl rfl rfl ?_
  refine ls_si rfl rfl rfl rfl rfl rfl (mi_cal_v2 (np := 0) (args := [.retAddr q]) (rest := [.int (Int32.ofInt (bs.length : Int)), .int (Int32.ofInt 0), .ref a]) rfl rfl rfl rfl rfl (Nat.le_of_ble_eq_true rfl) rfl rfl (Nat.le_of_ble_eq_true rfl) (ls_rcq Hs.1)) (Nat.le_of_ble_eq_true rfl) (Hs.2.1 d _) ?_
  refine mi_s_add rfl rfl ?_
  refine ls_ast A rfl rfl (by omega) (by omega) (by omega) ?_
  intro h2_ A f
  replace fr := LF_tr1 fr f (Or.inl (by simp))
  exact ls_rv rfl rfl rfl rfl (Nat.le_refl _) (Nat.le_refl _) (kk _ _ A fr rfl)
theorem lw_puts (Hs : STR X q bs') (A : LT h a n bs) (hl : bs.length + bs'.length < n) (hn : n ≤ 100000) : LCv X (d + 4) mi_M175 [(0, .ref a), (1, .retAddr q)] h 0 0 (fun h' => LT h' a n (bs ++ bs') ∧ LF h h' [a]) := by
  obtain ⟨g, A, g0, gb⟩ := A
  have loop : ∀ (m k : Nat), m + k = bs'.length → ∀ (h1 : mi_H) (g1 : Nat → Int), LA h1 a n g1 → LF h h1 [a] → g1 0 = (bs.length : Int) → (∀ (i : Nat) (b : Int), (bs ++ bs'.take k)[i]? = some b → g1 (i + 1) = b) → mi_wp X (d + 4) mi_M175 2 [(2, .int (Int32.ofInt (k : Int))), (0, .ref a), (1, .retAddr q)] [] h1 0 0 (fun z => ∃ v h' c' s', z = (.inl v, h', c', s') ∧ c' ≤ 0 ∧ s' ≤ 0 ∧ v = none ∧ LT h' a n (bs ++ bs') ∧ LF h h' [a]) := by
    intro m
    induction m with
    | zero =>
      intro k hk h1 g1 A1 fr g10 gb1
      obtain rfl : k = bs'.length := by omega
      refine put_end Hs A1 g10 hl hn fr (fun h' g' A' fr' e => ⟨⟨g', A', ?_, fun i b hb => ?_⟩, fr'⟩)
      · rw [e, List.length_append]
        simp [va_up]
      · rw [e, va_up_ne _ _ (by show i + 1 ≠ (0 : Int).toNat; simp)]
        exact gb1 i b (by rw [List.take_length]; exact hb)
    | succ m ih =>
      intro k hk h1 g1 A1 fr g10 gb1
      have hlt : k < bs'.length := by omega
      refine put_turn Hs A1 g10 (List.getElem?_eq_getElem hlt) hl hn fr (fun h' g' A' fr' e => ?_)
      refine ih (k + 1) (by omega) h' g' A' fr' ?_ (fun i b hb => ?_)
      · rw [e, va_up_ne _ _ (by omega)]
        exact g10
      · have ei : (1 + (bs.length : Int) + (k : Int)).toNat = bs.length + k + 1 := by omega
        rw [e, ei]
        have et : bs ++ bs'.take (k + 1) = (bs ++ bs'.take k) ++ [bs'[k]] := by
          rw [List.take_succ_eq_append_getElem hlt, List.append_assoc]
        rw [et] at hb
        have hln : (bs ++ bs'.take k).length = bs.length + k := by
          rw [List.length_append, List.length_take]
          omega
        by_cases hi : i < bs.length + k
        · rw [List.getElem?_append_left (by omega)] at hb
          rw [va_up_ne _ _ (by omega)]
          exact gb1 i b hb
        · have hi2 := (List.getElem?_eq_some_iff.mp hb).1
          rw [List.length_append, hln] at hi2
          have hi3 : i = bs.length + k := by simp at hi2; omega
          subst hi3
          rw [List.getElem?_append_right (by omega), hln] at hb
          simp at hb
          rw [va_up_self]
          exact hb
  unfold LCv LC
  refine mi_wp_p (pc' := 1) (st' := [.int (Int32.ofInt 0)]) rfl rfl rfl ?_
  refine mi_wp_p (pc' := 2) (l' := [(2, .int (Int32.ofInt ((0 : Nat) : Int))), (0, .ref a), (1, .retAddr q)]) (st' := []) rfl rfl rfl ?_
  exact loop bs'.length 0 (by omega) h g A (LF_rf _ _) g0 (fun i b hb => gb i b (by rw [List.take_zero, List.append_nil] at hb; exact hb))
theorem lt_push {h : mi_H} {a n : Nat} {g g' : Nat → Int} {bs : List Int} {b e : Int} (A : LA h a n g') (e' : g' = va_up (va_up g (1 + (bs.length : Int)).toNat b) (0 : Int).toNat ((bs.length : Int) + 1)) (h0_ : g 0 = (bs.length : Int)) (gb : ∀ (i : Nat) (b : Int), bs[i]? = some b → g (i + 1) = b) (he : e = b) : LT h a n (bs ++ [e]) := by
  subst he e'
  refine ⟨_, A, by simp [va_up], fun i x hx => ?_⟩
  rw [va_up_ne _ _ (by show i + 1 ≠ (0 : Int).toNat; simp)]
  have ei : (1 + (bs.length : Int)).toNat = bs.length + 1 := by omega
  rw [ei]
  by_cases hi : i < bs.length
  · rw [List.getElem?_append_left hi] at hx
    rw [va_up_ne _ _ (by omega)]
    exact gb i x hx
  · have hi2 := (List.getElem?_eq_some_iff.mp hx).1
    have hi3 : i = bs.length := by simp at hi2; omega
    subst hi3
    rw [List.getElem?_append_right (by omega)] at hx
    simp at hx
    rw [va_up_self]
    exact hx
theorem lw_puti {k : Nat} (hk : k < 10) (A : LT h a n bs) (hl : bs.length + 1 < n) (hn : n ≤ 100000) : LCv X d mi_M174 [(0, .ref a), (1, .int (Int32.ofInt (k : Int)))] h 0 0 (fun h' => LT h' a n (bs ++ [48 + (k : Int)]) ∧ LF h h' [a]) := by
  obtain ⟨g, A, h0_, gb⟩ := A
  have h1_ : ∀ b : Int, (va_up g (1 + (bs.length : Int)).toNat b) (0 : Int).toNat = (bs.length : Int) := fun b => by rw [va_up_ne _ _ (by show (0 : Int).toNat ≠ _; simp; omega)]; exact h0_
  unfold LCv LC
  have fr := LF_rf h [a]
  refine mi_wp_p (pc' := 1) (st' := [.int (Int32.ofInt (k : Int))]) rfl rfl rfl ?_
  refine mi_s_if1 (t := 17) rfl rfl rfl (by unfold mi_R; omega) (fun _ => ?_) (fun hc_ => absurd (show 0 ≤ (k : Int) by omega) hc_)
  refine mi_wp_p (pc' := 18) (st' := [.int (Int32.ofInt (k : Int))]) rfl rfl rfl ?_
  refine mi_s_k (pc' := 20) (e := 9) rfl rfl rfl (by decide +kernel) ?_
  refine mi_s_if2 (t := 31) rfl rfl rfl (by unfold mi_R; omega) (by unfold mi_R; omega) (fun _ => ?_) (fun hc_ => absurd (show (k : Int) ≤ 9 by omega) hc_)
  refine mi_wp_p (pc' := 32) (st' := [.ref a]) rfl rfl rfl ?_
  refine mi_wp_p (pc' := 33) (st' := [.int (Int32.ofInt 1), .ref a]) rfl rfl rfl ?_
  refine mi_wp_p (pc' := 34) (st' := [.ref a, .int (Int32.ofInt 1), .ref a]) rfl rfl rfl ?_
  refine mi_wp_p (pc' := 35) (st' := [.int (Int32.ofInt 0), .ref a, .int (Int32.ofInt 1), .ref a]) rfl rfl rfl ?_
  refine ls_ald (x := (bs.length : Int)) A rfl rfl (by omega) (by omega) (by omega) h0_ ?_
  refine mi_s_add rfl rfl ?_
  refine mi_s_k (pc' := 39) (e := 48) rfl rfl rfl (by decide +kernel) ?_
  refine mi_wp_p (pc' := 40) (st' := [.int (Int32.ofInt (k : Int)), .int (Int32.ofInt 48), .int (Int32.ofInt (1 + (bs.length : Int))), .ref a]) rfl rfl rfl ?_
  refine mi_s_k (pc' := 42) (e := 10) rfl rfl rfl (by decide +kernel) ?_
  refine ls_rem (by omega) (by omega) rfl rfl ?_
  refine mi_s_top (b := (k : Int)) (by omega) ?_
  refine mi_s_add rfl rfl ?_
  refine ls_ast A rfl rfl (by omega) (by omega) (by omega) ?_
  intro h3_ A f
  replace fr := LF_tr1 fr f (Or.inl (by simp))
  refine mi_wp_p (pc' := 46) (st' := [.ref a]) rfl rfl rfl ?_
  refine mi_wp_p (pc' := 47) (st' := [.int (Int32.ofInt 0), .ref a]) rfl rfl rfl ?_
  refine mi_wp_p (pc' := 48) (st' := [.int (Int32.ofInt 0), .ref a, .int (Int32.ofInt 0), .ref a]) rfl rfl rfl ?_
  refine ls_ald (x := (bs.length : Int)) A rfl rfl (by omega) (by omega) (by omega) (h1_ _) ?_
  refine mi_wp_p (pc' := 50) (st' := [.int (Int32.ofInt 1), .int (Int32.ofInt (bs.length : Int)), .int (Int32.ofInt 0), .ref a]) rfl rfl rfl ?_
  refine mi_s_add rfl rfl ?_
  refine ls_ast A rfl rfl (by omega) (by omega) (by omega) ?_
  intro h4_ A f
  replace fr := LF_tr1 fr f (Or.inl (by simp))
  exact ls_rv rfl rfl rfl rfl (Nat.le_refl _) (Nat.le_refl _) ⟨lt_push A rfl h0_ gb (by omega), fr⟩
end LW
