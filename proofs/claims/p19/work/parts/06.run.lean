/-! ===== the abstract machine, part two: cells, calls, whole methods ===== -/
abbrev mi_H : Type := List va_E
/-- the script of the law, if it is known -/
abbrev mi_X : Type := Option (Nat × (Nat → Int32))
abbrev mi_Q : Type := Option (Nat × List Value × mi_H × Nat × Nat)
def mi_inb (j : Int32) (n : Nat) : Bool := decide (0 ≤ j.toInt) && decide (j.toInt < (n : Int))
def mi_gf (ci j k pc' : Nat) (r : List Value) (h : mi_H) (c s : Nat) : mi_Q := match h[k]? with
  | some (.inr o) => if o.1 = ci then (match o.2[j]? with
    | some v => some (pc', v :: r, h, c, s)
    | none => none) else none
  | _ => none
/-- a read of a String constant's field: 0 its bytes, 1 its coder -/
def mi_gs (j k pc' : Nat) (r : List Value) (h : mi_H) (c s : Nat) : mi_Q :=
  if k % 4 = 0 ∧ k / 4 < mi_nS then (if j = 0 then some (pc', .retAddr (k + 1) :: r, h, c, s) else if j = 1 then some (pc', .int 0 :: r, h, c, s) else none) else none
def mi_getf (o idx pc' : Nat) (st : List Value) (h : mi_H) (c s : Nat) : mi_Q := match st with
  | .ref k :: r => (match mi_lk (mi_fl o) idx with
    | some x => mi_gf x.1 x.2 k pc' r h c s
    | none => (match mi_lk (mi_nf o) idx with
      | some x => mi_gf x.1 x.2 k pc' r h c s
      | none => none))
  | .retAddr k :: r => (match mi_lk (mi_sf o) idx with
    | some j => mi_gs j k pc' r h c s
    | none => none)
  | _ => none
def mi_fit : FieldType → Value → Bool
  | .object _, v => mi_isA v
  | .array _, v => mi_isA v
  | .float, _ => false
  | ty, v => decide (narrow ty v = v) && fits ty v
def mi_fin (ci j : Nat) : Bool := match mi_cl[ci]? with
  | some q => (q.2.1 j).2.2.2
  | none => true
def mi_pf (M : mi_M) (ci j k pc' : Nat) (v : Value) (r : List Value) (h : mi_H) (c s : Nat) : mi_Q := match h[k]? with
  | some (.inr o) => if o.1 = ci ∧ j < o.2.length ∧ mi_fit (mi_ty ci j) v = true ∧ (mi_fin ci j = false ∨ (mi_kd M = 2 ∧ mi_ow M = ci)) then some (pc', r, h.set k (.inr (ci, o.2.set j v)), c, s) else none
  | _ => none
def mi_putf (M : mi_M) (idx pc' : Nat) (st : List Value) (h : mi_H) (c s : Nat) : mi_Q := match st with
  | v :: .ref k :: r => (match mi_lk (mi_fl (mi_ow M)) idx with
    | some x => mi_pf M x.1 x.2 k pc' v r h c s
    | none => none)
  | _ => none
/-- a load out of an array of ints, bytes or booleans: 0, 2, 3 -/
def mi_ald (t pc' : Nat) (st : List Value) (h : mi_H) (c s : Nat) : mi_Q := match st with
  | .int j :: .ref k :: r => (match h[k]? with
    | some (.inl (t', n, .inl f)) => if t' = t ∧ mi_inb j n = true then some (pc', .int (f j.toNatClampNeg) :: r, h, c, s) else none
    | _ => none)
  | _ => none
def mi_sld (X : mi_X) (pc' : Nat) (st : List Value) (h : mi_H) (c s : Nat) : mi_Q := match X, st with
  | some x, .int j :: .retAddr k :: r => if k = 3 ∧ mi_inb j x.1 = true then some (pc', .int (x.2 j.toNatClampNeg) :: r, h, c, s) else none
  | _, _ => none
def mi_bld (pc' : Nat) (st : List Value) (h : mi_H) (c s : Nat) : mi_Q := match st with
  | .int j :: .retAddr k :: r => if k % 4 = 1 ∧ k / 4 < mi_nS ∧ mi_inb j (mi_byt.getD (k / 4) []).length = true then some (pc', .int ((mi_byt.getD (k / 4) []).getD j.toNatClampNeg 0) :: r, h, c, s) else none
  | _ => none
def mi_lald (pc' : Nat) (st : List Value) (h : mi_H) (c s : Nat) : mi_Q := match st with
  | .int j :: .ref k :: r => (match h[k]? with
    | some (.inl (t', n, .inr (.inl f))) => if t' = 1 ∧ mi_inb j n = true then some (pc', .long (f j.toNatClampNeg) :: r, h, c, s) else none
    | _ => none)
  | _ => none
/-- the row of keywords, a static of the reference: place j is a String constant -/
def mi_ktab : List Nat := []
def mi_ast (t : Nat) (f' : Int32 → Int32) (pc' : Nat) (st : List Value) (h : mi_H) (c s : Nat) : mi_Q := match st with
  | .int x :: .int j :: .ref k :: r => (match h[k]? with
    | some (.inl (t', n, .inl f)) => if t' = t ∧ mi_inb j n = true then some (pc', r, h.set k (.inl (t, n, .inl (upd f j.toNatClampNeg (f' x)))), c, s) else none
    | _ => none)
  | _ => none
def mi_last (pc' : Nat) (st : List Value) (h : mi_H) (c s : Nat) : mi_Q := match st with
  | .long x :: .int j :: .ref k :: r => (match h[k]? with
    | some (.inl (t', n, .inr (.inl f))) => if t' = 1 ∧ mi_inb j n = true then some (pc', r, h.set k (.inl (1, n, .inr (.inl (vp_updL f j.toNatClampNeg x)))), c, s) else none
    | _ => none)
  | _ => none
def mi_alen (X : mi_X) (pc' : Nat) (st : List Value) (h : mi_H) (c s : Nat) : mi_Q := match st with
  | .ref k :: r => (match h[k]? with
    | some (.inl (t', n, .inl _)) => if t' < 4 then some (pc', .int (Int32.ofNat n) :: r, h, c, s) else none
    | some (.inl (t', n, .inr (.inl _))) => if t' < 4 then some (pc', .int (Int32.ofNat n) :: r, h, c, s) else none
    | _ => none)
  | .retAddr k :: r => if k % 4 = 1 ∧ k / 4 < mi_nS then some (pc', .int (Int32.ofNat (mi_byt.getD (k / 4) []).length) :: r, h, c, s) else (match X with
    | some x => if k = 3 then some (pc', .int (Int32.ofNat x.1) :: r, h, c, s) else none
    | none => none)
  | _ => none
/-- what stands in a row of Strings: null or a String constant -/
def mi_qv : Option Nat → Value
  | some q => .retAddr q
  | none => .null
/-- a load out of a row of Strings -/
def mi_qld (pc' : Nat) (st : List Value) (h : mi_H) (c s : Nat) : mi_Q := match st with
  | .int j :: .ref k :: r => (match h[k]? with
    | some (.inl (t', n, .inr (.inr (.inr (.inr f))))) => if t' = 4 ∧ mi_inb j n = true then some (pc', mi_qv (f j.toNatClampNeg) :: r, h, c, s) else none
    | _ => none)
  | _ => none
/-- a String constant into a row of Strings -/
def mi_qst (pc' : Nat) (st : List Value) (h : mi_H) (c s : Nat) : mi_Q := match st with
  | .retAddr q :: .int j :: .ref k :: r => (match h[k]? with
    | some (.inl (t', n, .inr (.inr (.inr (.inr f))))) => if t' = 4 ∧ mi_inb j n = true ∧ q % 4 = 0 ∧ q / 4 < mi_nS then some (pc', r, h.set k (.inl (4, n, .inr (.inr (.inr (.inr (va_up f j.toNatClampNeg (some q))))))), c, s) else none
    | _ => none)
  | _ => none
/-- a new row of Strings -/
def mi_qnw (o idx pc' : Nat) (st : List Value) (h : mi_H) (c s : Nat) : mi_Q := match st with
  | .int n :: r => if (mi_lk (mi_al_ o) idx).isSome = true ∧ mi_inb n 200001 = true then some (pc', .ref h.length :: r, h ++ [.inl (4, n.toNatClampNeg, .inr (.inr (.inr (.inr (fun _ => none)))))], c + 1, s + n.toNatClampNeg) else none
  | _ => none
def mi_nar (t : Nat) (z : Nat → vp_A) (pc' : Nat) (st : List Value) (h : mi_H) (c s : Nat) : mi_Q := match st with
  | .int n :: r => if mi_inb n 200001 = true then some (pc', .ref h.length :: r, h ++ [.inl (t, z n.toNatClampNeg)], c + 1, s + n.toNatClampNeg) else none
  | _ => none
def mi_new (o idx pc' : Nat) (st : List Value) (h : mi_H) (c s : Nat) : mi_Q := match mi_lk (mi_kl o) idx with
  | some ci => (match mi_cl[ci]? with
    | some q => some (pc', .ref h.length :: st, h ++ [.inr (ci, (List.range q.2.2).map (fun j => defaultValue (mi_ty ci j)))], c + 1, s + q.2.2)
    | none => none)
  | none => none
def mi_ldc (o idx pc' : Nat) (st : List Value) (h : mi_H) (c s : Nat) : mi_Q := match mi_lk (mi_il o) idx with
  | some v => some (pc', .int v :: st, h, c, s)
  | none => (match mi_lk (mi_sl o) idx with
    | some i => if i < mi_nS then some (pc', .retAddr (4 * i) :: st, h, c, s) else none
    | none => none)
def mi_ldc2 (o idx pc' : Nat) (st : List Value) (h : mi_H) (c s : Nat) : mi_Q := match mi_lk (mi_jl o) idx with
  | some v => some (pc', .long v :: st, h, c, s)
  | none => none
def mi_gets (o idx pc' : Nat) (st : List Value) (h : mi_H) (c s : Nat) : mi_Q := match mi_lk (mi_gl o) idx with
  | some 1 => some (pc', .float 0 :: st, h, c, s)
  | some 2 => some (pc', .int 1 :: st, h, c, s)
  | _ => none
/-- an instruction that reads or writes cells, or makes one -/
def mi_mem (X : mi_X) (M : mi_M) (i : Instr) (pc : Nat) (st : List Value) (h : mi_H) (c s : Nat) : mi_Q := match i with
  | .getfield idx => mi_getf (mi_ow M) idx (pc + 3) st h c s
  | .putfield idx => mi_putf M idx (pc + 3) st h c s
  | .iaload => (match mi_ald 0 (pc + 1) st h c s with
    | some q => some q
    | none => mi_sld X (pc + 1) st h c s)
  | .baload => (match mi_ald 2 (pc + 1) st h c s with
    | some q => some q
    | none => (match mi_ald 3 (pc + 1) st h c s with
      | some q => some q
      | none => mi_bld (pc + 1) st h c s))
  | .laload => mi_lald (pc + 1) st h c s
  | .aaload => mi_qld (pc + 1) st h c s
  | .iastore => mi_ast 0 (fun x => x) (pc + 1) st h c s
  | .bastore => (match mi_ast 2 (vp_nar .byte) (pc + 1) st h c s with
    | some q => some q
    | none => mi_ast 3 (vp_nar .boolean) (pc + 1) st h c s)
  | .lastore => mi_last (pc + 1) st h c s
  | .aastore => mi_qst (pc + 1) st h c s
  | .arraylength => mi_alen X (pc + 1) st h c s
  | .newarray .int => mi_nar 0 (fun n => (n, .inl (fun _ => 0))) (pc + 2) st h c s
  | .newarray .long => mi_nar 1 (fun n => (n, .inr (.inl (fun _ => 0)))) (pc + 2) st h c s
  | .newarray .byte => mi_nar 2 (fun n => (n, .inl (fun _ => 0))) (pc + 2) st h c s
  | .newarray .boolean => mi_nar 3 (fun n => (n, .inl (fun _ => 0))) (pc + 2) st h c s
  | .new idx => mi_new (mi_ow M) idx (pc + 3) st h c s
  | .anewarray idx => mi_qnw (mi_ow M) idx (pc + 3) st h c s
  | .ldc idx => mi_ldc (mi_ow M) idx (pc + 2) st h c s
  | .ldc_w idx => (match mi_lk (mi_il (mi_ow M)) idx with
    | some v => some (pc + 3, .int v :: st, h, c, s)
    | none => (match mi_lk (mi_sl (mi_ow M)) idx with
      | some i => if i < mi_nS then some (pc + 3, .retAddr (4 * i) :: st, h, c, s) else none
      | none => none))
  | .ldc2_w idx => mi_ldc2 (mi_ow M) idx (pc + 3) st h c s
  | .getstatic idx => mi_gets (mi_ow M) idx (pc + 3) st h c s
  | _ => none
/-- how long each of these is -/
def mi_ml2 : Instr → Nat
  | .iaload => 1
  | .baload => 1
  | .laload => 1
  | .aaload => 1
  | .aastore => 1
  | .iastore => 1
  | .bastore => 1
  | .lastore => 1
  | .arraylength => 1
  | .newarray _ => 2
  | .ldc _ => 2
  | _ => 3
/-- a return: its value, if the method's type takes it -/
def mi_ret (M : mi_M) (i : Instr) (st : List Value) : Option (Option Value) := match i, st with
  | .return_, [] => if mi_rt M = none then some none else none
  | .ireturn, [.int v] => (match mi_rt M with
    | some ty => if decide (narrow ty (.int v) = .int v) && (decide (ty = .int) || (decide (ty = .boolean) || (decide (ty = .byte) || decide (ty = .char)))) then some (some (.int v)) else none
    | none => none)
  | .lreturn, [.long v] => if mi_rt M = some .long then some (some (.long v)) else none
  | .dreturn, [.double v] => if mi_rt M = some .double then some (some (.double v)) else none
  | _, _ => none
def mi_cat (st : List Value) : Nat := (st.map fun v => v.category).sum
/-- the receiver is of the class o -/
def mi_rc (h : mi_H) (v : Value) (o : Nat) : Bool := match v with
  | .ref k => (match h[k]? with
    | some (.inr x) => x.1 == o
    | _ => false)
  | .retAddr k => k % 4 == 0 && (decide (k / 4 < mi_nS) && o == mi_oS)
  | _ => false
def mi_isR : Value → Bool
  | .ref _ => true
  | _ => false
/-- what an instruction calls: the method, its arguments, the stack below -/
def mi_cal (M : mi_M) (i : Instr) (st : List Value) (h : mi_H) : Option (mi_M × List Value × List Value) := match i with
  | .invokevirtual idx => (match mi_lk (mi_ml (mi_ow M)) idx with
    | some k => (match mi_mt[k]? with
      | some M' => if mi_kd M' = 1 ∧ mi_np M' < st.length ∧ mi_cat (st.drop (mi_np M' + 1)) ≤ 8 ∧ mi_rc h (st.getD (mi_np M') .null) (mi_ow M') = true then some (M', (st.take (mi_np M' + 1)).reverse, st.drop (mi_np M' + 1)) else none
      | none => none)
    | none => none)
  | .invokestatic idx => (match mi_lk (mi_ml (mi_ow M)) idx with
    | some k => (match mi_mt[k]? with
      | some M' => if (mi_kd M' = 0 ∨ mi_kd M' = 3) ∧ mi_np M' ≤ st.length ∧ mi_cat (st.drop (mi_np M')) ≤ 8 then some (M', (st.take (mi_np M')).reverse, st.drop (mi_np M')) else none
      | none => none)
    | none => none)
  | .invokespecial idx => (match (match mi_lk (mi_ml (mi_ow M)) idx with
      | some k => some k
      | none => mi_lk (mi_nm (mi_ow M)) idx) with
    | some k => (match mi_mt[k]? with
      | some M' => if mi_kd M' = 2 ∧ mi_rt M' = none ∧ mi_np M' < st.length ∧ mi_cat (st.drop (mi_np M' + 1)) ≤ 8 ∧ mi_isR (st.getD (mi_np M') .null) = true then some (M', (st.take (mi_np M' + 1)).reverse, st.drop (mi_np M' + 1)) else none
      | none => none)
    | none => none)
  | _ => none
/-- calls that need no walk: Object's constructor, Math.max and Math.min of ints -/
def mi_easy (M : mi_M) (i : Instr) (st : List Value) : Option (List Value) := match i, st with
  | .invokespecial idx, .ref _ :: r => if mi_lk (mi_ml (mi_ow M)) idx = some 1000000 ∧ mi_cat r ≤ 8 then some r else none
  | .invokestatic idx, .int y :: .int x :: r => if mi_cat r ≤ 8 then (match mi_lk (mi_ml (mi_ow M)) idx with
    | some 1000002 => some (.int (if x < y then y else x) :: r)
    | some 1000003 => some (.int (if y < x then y else x) :: r)
    | _ => none) else none
  | _, _ => none
/-- the first row of a method's table that covers pc -/
def mi_fnd : List (Nat × Nat × Nat × Nat) → Nat → Option (Nat × Nat × Nat × Nat)
  | [], _ => none
  | q :: l, pc => if (decide (q.1 ≤ pc) && decide (pc < q.2.1)) = true then some q else mi_fnd l pc
/-- where the method catches the exception x that comes out of the call at pc -/
def mi_hnd (M : mi_M) (pc x : Nat) : Option Nat := match mi_fnd (mi_hd M) pc with
  | some q => if mi_lk (mi_xl (mi_ow M)) q.2.2.2 = some x then some q.2.2.1 else none
  | none => none
abbrev mi_Z : Type := (Option Value ⊕ Nat) × mi_H × Nat × Nat
/-- n: how many instructions at most; d: how many calls deep. What is returned, or the exception's number; the cells; how many cells and slots were made -/
def mi_run (X : mi_X) : Nat → Nat → mi_M → Nat → mi_L → List Value → mi_H → Nat → Nat → Option mi_Z
  | 0, _, _, _, _, _, _, _, _ => none
  | n + 1, d, M, pc, l, st, h, c, s => match mi_lk (mi_th M) pc with
    | some t => if 8 ≤ d ∧ mi_cat st ≤ 8 then some (.inr t.1, h, c + 1, s + 6) else none
    | none => match mi_lk (mi_cd M) pc with
      | none => none
      | some (i, len) => match mi_pure (mi_nL M) len i pc l st with
        | some (pc', l', st') => mi_run X n d M pc' l' st' h c s
        | none => match mi_ret M i st with
          | some v => if len = 1 then some (.inl v, h, c, s) else none
          | none => match (if len = mi_ml2 i then mi_mem X M i pc st h c s else none) with
            | some (pc', st', h', c', s') => mi_run X n d M pc' l st' h' c' s'
            | none => if len = 3 then (match d with
              | 0 => none
              | d' + 1 => match mi_easy M i st with
                | some st' => mi_run X n (d' + 1) M (pc + 3) l st' h c s
                | none => match mi_cal M i st h with
                  | none => none
                  | some (M', args, rest) => match (if mi_cat args ≤ mi_nL M' then mi_run X n d' M' 0 (lv_args 0 args) [] h 0 0 else none) with
                    | none => none
                    | some (.inl v, h', c', s') => mi_run X n (d' + 1) M (pc + 3) l (v.toList ++ rest) h' (c + c') (s + s')
                    | some (.inr x, h', c', s') => match (if mi_kd M' = 1 then mi_hnd M pc x else none) with
                      | some p' => mi_run X n (d' + 1) M p' l [.float 0] h' (c + c') (s + s')
                      | none => none) else none
