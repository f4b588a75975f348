/-! ===== an abstract machine: what bytecode does to locals, stack and cells, as a function. Part one: instructions that touch no cell ===== -/
abbrev mi_L : Type := List (Nat × Value)
abbrev mi_P : Type := Option (Nat × mi_L × List Value)
def mi_look : mi_L → Nat → Option Value
  | [], _ => none
  | q :: l, k => if q.1 == k then some q.2 else mi_look l k
def mi_s1 (l : mi_L) (i : Nat) (v : Value) : mi_L := (i, v) :: l.filter (fun q => !(q.1 == i) && !(q.1 + 1 == i && q.2.category == 2))
def mi_s2 (l : mi_L) (i : Nat) (v : Value) : mi_L := (i, v) :: l.filter (fun q => !(q.1 == i) && (!(q.1 == i + 1) && !(q.1 + 1 == i && q.2.category == 2)))
def mi_jmp (pc : Nat) (off : Int) : Option Nat := if 0 ≤ (pc : Int) + off then some ((pc : Int) + off).toNat else none
def mi_isI : Value → Bool
  | .int _ => true
  | _ => false
def mi_isL : Value → Bool
  | .long _ => true
  | _ => false
def mi_isD : Value → Bool
  | .double _ => true
  | _ => false
/-- null, a cell (ref), a cell that was there before (retAddr), null or some cell of which nothing is known (float) -/
def mi_isA : Value → Bool
  | .null => true
  | .ref _ => true
  | .retAddr _ => true
  | .float _ => true
  | _ => false
def mi_ld (ok : Value → Bool) (k pc' : Nat) (l : mi_L) (st : List Value) : mi_P := match mi_look l k with
  | some v => if ok v then some (pc', l, v :: st) else none
  | none => none
def mi_st (ok : Value → Bool) (nL k pc' : Nat) (l : mi_L) (st : List Value) : mi_P := match st with
  | v :: r => if ok v && decide (k < nL) then some (pc', mi_s1 l k v, r) else none
  | [] => none
def mi_st2 (ok : Value → Bool) (nL k pc' : Nat) (l : mi_L) (st : List Value) : mi_P := match st with
  | v :: r => if ok v && decide (k + 1 < nL) then some (pc', mi_s2 l k v, r) else none
  | [] => none
def mi_ii (f : Int32 → Int32 → Option Value) (pc' : Nat) (l : mi_L) (st : List Value) : mi_P := match st with
  | .int y :: .int x :: r => (match f x y with | some v => some (pc', l, v :: r) | none => none)
  | _ => none
def mi_ll (f : Int64 → Int64 → Option Value) (pc' : Nat) (l : mi_L) (st : List Value) : mi_P := match st with
  | .long y :: .long x :: r => (match f x y with | some v => some (pc', l, v :: r) | none => none)
  | _ => none
def mi_dd (f : UInt64 → UInt64 → Option Value) (pc' : Nat) (l : mi_L) (st : List Value) : mi_P := match st with
  | .double y :: .double x :: r => (match f x y with | some v => some (pc', l, v :: r) | none => none)
  | _ => none
def mi_li (f : Int64 → Int32 → Value) (pc' : Nat) (l : mi_L) (st : List Value) : mi_P := match st with
  | .int y :: .long x :: r => some (pc', l, f x y :: r)
  | _ => none
def mi_i1 (f : Int32 → Value) (pc' : Nat) (l : mi_L) (st : List Value) : mi_P := match st with
  | .int x :: r => some (pc', l, f x :: r)
  | _ => none
def mi_l1 (f : Int64 → Value) (pc' : Nat) (l : mi_L) (st : List Value) : mi_P := match st with
  | .long x :: r => some (pc', l, f x :: r)
  | _ => none
def mi_c1 (f : Int32 → Bool) (pc : Nat) (off : Int) (l : mi_L) (st : List Value) : mi_P := match st with
  | .int x :: r => (match mi_jmp pc off with | some t => some (if f x then t else pc + 3, l, r) | none => none)
  | _ => none
def mi_c2 (f : Int32 → Int32 → Bool) (pc : Nat) (off : Int) (l : mi_L) (st : List Value) : mi_P := match st with
  | .int y :: .int x :: r => (match mi_jmp pc off with | some t => some (if f x y then t else pc + 3, l, r) | none => none)
  | _ => none
def mi_goto (pc : Nat) (off : Int) (l : mi_L) (st : List Value) : mi_P := match mi_jmp pc off with
  | some t => some (t, l, st)
  | none => none
/-- whether a branch on null is taken: 'isn' for ifnull -/
def mi_nul (isn : Bool) (pc : Nat) (off : Int) (l : mi_L) (st : List Value) : mi_P := match st with
  | .null :: r => if isn then mi_goto pc off l r else some (pc + 3, l, r)
  | .ref _ :: r => if isn then some (pc + 3, l, r) else mi_goto pc off l r
  | .retAddr _ :: r => if isn then some (pc + 3, l, r) else mi_goto pc off l r
  | _ => none
def mi_dup (pc' : Nat) (l : mi_L) (st : List Value) : mi_P := match st with
  | v :: r => if v.category = 1 then some (pc', l, v :: v :: r) else none
  | _ => none
def mi_pop (pc' : Nat) (l : mi_L) (st : List Value) : mi_P := match st with
  | v :: r => if v.category = 1 then some (pc', l, r) else none
  | _ => none
def mi_dupx1 (pc' : Nat) (l : mi_L) (st : List Value) : mi_P := match st with
  | v :: w :: r => if v.category = 1 ∧ w.category = 1 then some (pc', l, v :: w :: v :: r) else none
  | _ => none
def mi_dup2 (pc' : Nat) (l : mi_L) (st : List Value) : mi_P := match st with
  | v :: r => if v.category = 2 then some (pc', l, v :: v :: r) else (match r with
    | w :: r' => if v.category = 1 ∧ w.category = 1 then some (pc', l, v :: w :: v :: w :: r') else none
    | [] => none)
  | _ => none
def mi_pop2 (pc' : Nat) (l : mi_L) (st : List Value) : mi_P := match st with
  | v :: r => if v.category = 2 then some (pc', l, r) else none
  | _ => none
def mi_iinc (nL k : Nat) (n : Int) (pc' : Nat) (l : mi_L) (st : List Value) : mi_P := match mi_look l k with
  | some (.int x) => if k < nL then some (pc', mi_s1 l k (.int (x + Int32.ofInt n)), st) else none
  | _ => none
def mi_tab (d lo hi : Int) (offs : Array Int) (pc : Nat) (l : mi_L) (st : List Value) : mi_P := match st with
  | .int x :: r => if x.toInt < lo ∨ hi < x.toInt then mi_goto pc d l r else (match offs[(x.toInt - lo).toNat]? with
    | some off => mi_goto pc off l r
    | none => none)
  | _ => none
def mi_lku (d : Int) (ps : Array (Int × Int)) (pc : Nat) (l : mi_L) (st : List Value) : mi_P := match st with
  | .int x :: r => if (ps.toList.zip (ps.toList.drop 1)).all (fun (a, next) => a.1 < next.1) = true then mi_goto pc (Op.lookupswitch.offset ps.toList d x.toInt) l r else none
  | _ => none
def mi_cc : ClassFile.Cond → Int32 → Int32 → Bool
  | .eq, x, y => decide (x = y)
  | .ne, x, y => !decide (x = y)
  | .lt, x, y => decide (x < y)
  | .ge, x, y => decide (y ≤ x)
  | .gt, x, y => decide (y < x)
  | .le, x, y => decide (x ≤ y)
def mi_len : Instr → Nat
  | .bipush _ => 2
  | .iload _ => 2
  | .lload _ => 2
  | .aload _ => 2
  | .dload _ => 2
  | .istore _ => 2
  | .lstore _ => 2
  | .astore _ => 2
  | .dstore _ => 2
  | .sipush _ => 3
  | .ifCond _ _ => 3
  | .if_icmp _ _ => 3
  | .ifnull _ => 3
  | .ifnonnull _ => 3
  | .goto _ => 3
  | .iinc _ _ => 3
  | _ => 1
def mi_pu (nL : Nat) (i : Instr) (pc : Nat) (l : mi_L) (st : List Value) : mi_P := match i with
  | .aconst_null => some (pc + 1, l, .null :: st)
  | .iconst n => some (pc + 1, l, .int (Int32.ofInt n) :: st)
  | .bipush n => some (pc + 2, l, .int (Int8.ofInt n).toInt32 :: st)
  | .sipush n => some (pc + 3, l, .int (Int16.ofInt n).toInt32 :: st)
  | .lconst n => some (pc + 1, l, .long (Int64.ofNat (n : Nat)) :: st)
  | .dconst n => some (pc + 1, l, .double (match n with | 0 => FP.dconst0 | 1 => FP.dconst1) :: st)
  | .iload k => mi_ld mi_isI k (pc + 2) l st
  | .iload_n k => mi_ld mi_isI k (pc + 1) l st
  | .lload k => mi_ld mi_isL k (pc + 2) l st
  | .lload_n k => mi_ld mi_isL k (pc + 1) l st
  | .dload k => mi_ld mi_isD k (pc + 2) l st
  | .dload_n k => mi_ld mi_isD k (pc + 1) l st
  | .aload k => mi_ld mi_isA k (pc + 2) l st
  | .aload_n k => mi_ld mi_isA k (pc + 1) l st
  | .istore k => mi_st mi_isI nL k (pc + 2) l st
  | .istore_n k => mi_st mi_isI nL k (pc + 1) l st
  | .astore k => mi_st mi_isA nL k (pc + 2) l st
  | .astore_n k => mi_st mi_isA nL k (pc + 1) l st
  | .lstore k => mi_st2 mi_isL nL k (pc + 2) l st
  | .lstore_n k => mi_st2 mi_isL nL k (pc + 1) l st
  | .dstore k => mi_st2 mi_isD nL k (pc + 2) l st
  | .dstore_n k => mi_st2 mi_isD nL k (pc + 1) l st
  | .iinc k n => mi_iinc nL k n (pc + 3) l st
  | .iadd => mi_ii (fun x y => some (.int (x + y))) (pc + 1) l st
  | .isub => mi_ii (fun x y => some (.int (x - y))) (pc + 1) l st
  | .imul => mi_ii (fun x y => some (.int (x * y))) (pc + 1) l st
  | .iand => mi_ii (fun x y => some (.int (x &&& y))) (pc + 1) l st
  | .ior => mi_ii (fun x y => some (.int (x ||| y))) (pc + 1) l st
  | .ixor => mi_ii (fun x y => some (.int (x ^^^ y))) (pc + 1) l st
  | .idiv => mi_ii (fun x y => if y = 0 then none else some (.int (x / y))) (pc + 1) l st
  | .irem => mi_ii (fun x y => if y = 0 then none else some (.int (x - x / y * y))) (pc + 1) l st
  | .ishl => mi_ii (fun x y => some (.int (x <<< (y &&& 31)))) (pc + 1) l st
  | .ishr => mi_ii (fun x y => some (.int (x >>> (y &&& 31)))) (pc + 1) l st
  | .iushr => mi_ii (fun x y => some (.int (x.toUInt32 >>> (y.toUInt32 &&& Int32.toUInt32 31)).toInt32)) (pc + 1) l st
  | .ineg => mi_i1 (fun x => .int (-x)) (pc + 1) l st
  | .i2l => mi_i1 (fun x => .long x.toInt64) (pc + 1) l st
  | .i2b => mi_i1 (fun x => .int x.toInt8.toInt32) (pc + 1) l st
  | .i2s => mi_i1 (fun x => .int x.toInt16.toInt32) (pc + 1) l st
  | .i2c => mi_i1 (fun x => .int (x.toUInt32 % 65536).toInt32) (pc + 1) l st
  | .i2d => mi_i1 (fun x => .double (FP.i2d x)) (pc + 1) l st
  | .l2i => mi_l1 (fun x => .int x.toInt32) (pc + 1) l st
  | .l2d => mi_l1 (fun x => .double (FP.l2d x)) (pc + 1) l st
  | .ladd => mi_ll (fun x y => some (.long (x + y))) (pc + 1) l st
  | .lsub => mi_ll (fun x y => some (.long (x - y))) (pc + 1) l st
  | .lmul => mi_ll (fun x y => some (.long (x * y))) (pc + 1) l st
  | .land => mi_ll (fun x y => some (.long (x &&& y))) (pc + 1) l st
  | .lxor => mi_ll (fun x y => some (.long (x ^^^ y))) (pc + 1) l st
  | .lor => mi_ll (fun x y => some (.long (x ||| y))) (pc + 1) l st
  | .ldiv => mi_ll (fun x y => if y = 0 then none else some (.long (x / y))) (pc + 1) l st
  | .lrem => mi_ll (fun x y => if y = 0 then none else some (.long (x - x / y * y))) (pc + 1) l st
  | .lcmp => mi_ll (fun x y => some (.int (lg_cmp x y))) (pc + 1) l st
  | .lshl => mi_li (fun x y => .long (x <<< (y.toInt64 &&& 63))) (pc + 1) l st
  | .lshr => mi_li (fun x y => .long (x >>> (y.toInt64 &&& 63))) (pc + 1) l st
  | .lushr => mi_li (fun x y => .long (x.toUInt64 >>> (y.toInt64.toUInt64 &&& Int64.toUInt64 63)).toInt64) (pc + 1) l st
  | .ddiv => mi_dd (fun x y => if FP.ddiv x y &&& 0x7fffffffffffffff ≤ 0x7ff0000000000000 then some (.double (FP.ddiv x y)) else none) (pc + 1) l st
  | .dcmp op => mi_dd (fun x y => some (.int (Op.cmpValue (FP.dcmp x y) op))) (pc + 1) l st
  | .dup => mi_dup (pc + 1) l st
  | .dup_x1 => mi_dupx1 (pc + 1) l st
  | .dup2 => mi_dup2 (pc + 1) l st
  | .pop => mi_pop (pc + 1) l st
  | .pop2 => mi_pop2 (pc + 1) l st
  | .ifCond k off => mi_c1 (fun x => mi_cc k x 0) pc off l st
  | .if_icmp k off => mi_c2 (fun x y => mi_cc k x y) pc off l st
  | .ifnull off => mi_nul true pc off l st
  | .ifnonnull off => mi_nul false pc off l st
  | .goto off => mi_goto pc off l st
  | _ => none
/-- one instruction that touches no cell and calls nothing: the next place, the locals, the stack -/
def mi_pure (nL len : Nat) (i : Instr) (pc : Nat) (l : mi_L) (st : List Value) : mi_P := match i with
  | .tableswitch d lo hi offs => mi_tab d lo hi offs pc l st
  | .lookupswitch d ps => mi_lku d ps pc l st
  | i => if len = mi_len i then mi_pu nL i pc l st else none
/-! how its values stand for the machine's: ad the addresses of its cells, cn those of the cells that were there before -/
def mi_rv (ad : List Nat) (cn : Nat → Nat) (v w : Value) : Prop := match v with
  | .ref k => ∃ a, ad[k]? = some a ∧ w = .ref a
  | .retAddr k => w = .ref (cn k)
  | .float _ => w = .null ∨ ∃ a, w = .ref a
  | v => w = v
def mi_rl (ad : List Nat) (cn : Nat → Nat) : List Value → List Value → Prop
  | [], ws => ws = []
  | v :: vs, ws => ∃ w ws', ws = w :: ws' ∧ mi_rv ad cn v w ∧ mi_rl ad cn vs ws'
def mi_rn (ad : List Nat) (cn : Nat → Nat) : mi_L → mi_L → Prop
  | [], lv => lv = []
  | q :: l, lv => ∃ w lv', lv = (q.1, w) :: lv' ∧ mi_rv ad cn q.2 w ∧ mi_rn ad cn l lv'
def mi_le (ad ad' : List Nat) : Prop := ∀ (k a : Nat), ad[k]? = some a → ad'[k]? = some a
theorem mi_le_rf (ad : List Nat) : mi_le ad ad := fun _ _ h => h
theorem mi_le_tr {a b c : List Nat} (h : mi_le a b) (h2 : mi_le b c) : mi_le a c := fun k x q => h2 k x (h k x q)
theorem mi_le_app (ad : List Nat) (q : Nat) : mi_le ad (ad ++ [q]) := fun k a h => by
  rw [List.getElem?_append_left (List.getElem?_eq_some_iff.mp h).1]; exact h
theorem mi_rv_mono {ad ad' : List Nat} {cn : Nat → Nat} (h : mi_le ad ad') {v w : Value} (q : mi_rv ad cn v w) : mi_rv ad' cn v w := by
  cases v <;> simp only [mi_rv] at q ⊢ <;> try exact q
  obtain ⟨a, h1, h2⟩ := q
  exact ⟨a, h _ _ h1, h2⟩
theorem mi_rl_mono {ad ad' : List Nat} {cn : Nat → Nat} (h : mi_le ad ad') : ∀ {vs ws : List Value}, mi_rl ad cn vs ws → mi_rl ad' cn vs ws
  | [], _, q => q
  | _ :: _, _, ⟨w, ws', e, a, b⟩ => ⟨w, ws', e, mi_rv_mono h a, mi_rl_mono h b⟩
theorem mi_rn_mono {ad ad' : List Nat} {cn : Nat → Nat} (h : mi_le ad ad') : ∀ {vs ws : mi_L}, mi_rn ad cn vs ws → mi_rn ad' cn vs ws
  | [], _, q => q
  | _ :: _, _, ⟨w, ws', e, a, b⟩ => ⟨w, ws', e, mi_rv_mono h a, mi_rn_mono h b⟩
theorem mi_rv_cat {ad : List Nat} {cn : Nat → Nat} {v w : Value} (q : mi_rv ad cn v w) : w.category = v.category := by
  cases v <;> simp only [mi_rv] at q
  case ref => obtain ⟨a, -, rfl⟩ := q; rfl
  case float => rcases q with rfl | ⟨a, rfl⟩ <;> rfl
  all_goals (subst q; rfl)
theorem mi_look_r {ad : List Nat} {cn : Nat → Nat} {i : Nat} {v : Value} : ∀ {l lv : mi_L}, mi_look l i = some v → mi_rn ad cn l lv → ∃ (k : Nat) (w : Value), lv[k]? = some (i, w) ∧ mi_rv ad cn v w
  | [], _, h, _ => by cases h
  | q :: l, _, h, ⟨w, lv', e, a, b⟩ => by
    subst e
    unfold mi_look at h
    by_cases hq : q.1 == i
    · rw [if_pos hq] at h
      cases h
      exact ⟨0, w, by simp [beq_iff_eq.mp hq], a⟩
    · rw [if_neg hq] at h
      obtain ⟨k, w2, h1, h2⟩ := mi_look_r h b
      exact ⟨k + 1, w2, by simpa using h1, h2⟩
theorem mi_rn_filter {ad : List Nat} {cn : Nat → Nat} (f : Nat → Nat → Bool) : ∀ {l lv : mi_L}, mi_rn ad cn l lv → mi_rn ad cn (l.filter (fun q => f q.1 q.2.category)) (lv.filter (fun q => f q.1 q.2.category))
  | [], _, h => by
    have h' : _ = [] := h
    subst h'
    exact rfl
  | q :: l, _, ⟨w, lv', e, a, b⟩ => by
    subst e
    have ih := mi_rn_filter f b
    have hc : w.category = q.2.category := mi_rv_cat a
    cases hf : f q.1 q.2.category with
    | true =>
      have e1 : (q :: l).filter (fun q => f q.1 q.2.category) = q :: l.filter (fun q => f q.1 q.2.category) := by simp [List.filter_cons, hf]
      have e2 : ((q.1, w) :: lv').filter (fun q => f q.1 q.2.category) = (q.1, w) :: lv'.filter (fun q => f q.1 q.2.category) := by simp [List.filter_cons, hc, hf]
      rw [e1, e2]
      exact ⟨w, _, rfl, a, ih⟩
    | false =>
      have e1 : (q :: l).filter (fun q => f q.1 q.2.category) = l.filter (fun q => f q.1 q.2.category) := by simp [List.filter_cons, hf]
      have e2 : ((q.1, w) :: lv').filter (fun q => f q.1 q.2.category) = lv'.filter (fun q => f q.1 q.2.category) := by simp [List.filter_cons, hc, hf]
      rw [e1, e2]
      exact ih
theorem mi_s1_r {ad : List Nat} {cn : Nat → Nat} {l lv : mi_L} {i : Nat} {v w : Value} (h : mi_rn ad cn l lv) (hv : mi_rv ad cn v w) : mi_rn ad cn (mi_s1 l i v) ((i, w) :: lv.filter (fun q => !(q.1 == i) && !(q.1 + 1 == i && q.2.category == 2))) :=
  ⟨w, _, rfl, hv, mi_rn_filter (fun a b => !(a == i) && !(a + 1 == i && b == 2)) h⟩
theorem mi_s2_r {ad : List Nat} {cn : Nat → Nat} {l lv : mi_L} {i : Nat} {v w : Value} (h : mi_rn ad cn l lv) (hv : mi_rv ad cn v w) : mi_rn ad cn (mi_s2 l i v) ((i, w) :: lv.filter (fun q => !(q.1 == i) && (!(q.1 == i + 1) && !(q.1 + 1 == i && q.2.category == 2)))) :=
  ⟨w, _, rfl, hv, mi_rn_filter (fun a b => !(a == i) && (!(a == i + 1) && !(a + 1 == i && b == 2))) h⟩
theorem mi_jmp_eq {pc t : Nat} {off : Int} (h : mi_jmp pc off = some t) : (pc : Int) + off = (t : Int) := by
  unfold mi_jmp at h
  split at h
  · cases h
    omega
  · cases h
/-! what each shape of instruction needs of the stack -/
theorem mi_ld_inv {ok : Value → Bool} {k pc' a : Nat} {l b : mi_L} {st d : List Value} (h : mi_ld ok k pc' l st = some (a, b, d)) : ∃ v, mi_look l k = some v ∧ ok v = true ∧ a = pc' ∧ b = l ∧ d = v :: st := by
  unfold mi_ld at h
  cases hv : mi_look l k with
  | none => simp [hv] at h
  | some v =>
    simp only [hv] at h
    by_cases ho : ok v = true
    · simp only [ho, if_true] at h
      cases h
      exact ⟨v, rfl, ho, rfl, rfl, rfl⟩
    · simp [ho] at h
theorem mi_st_inv {ok : Value → Bool} {nL k pc' a : Nat} {l b : mi_L} {st d : List Value} (h : mi_st ok nL k pc' l st = some (a, b, d)) : ∃ v r, st = v :: r ∧ ok v = true ∧ k < nL ∧ a = pc' ∧ b = mi_s1 l k v ∧ d = r := by
  unfold mi_st at h
  cases st with
  | nil => cases h
  | cons v r =>
    by_cases ho : (ok v && decide (k < nL)) = true
    · simp only [ho, if_true] at h
      cases h
      simp only [Bool.and_eq_true, decide_eq_true_eq] at ho
      exact ⟨v, _, rfl, ho.1, ho.2, rfl, rfl, rfl⟩
    · simp [ho] at h
theorem mi_st2_inv {ok : Value → Bool} {nL k pc' a : Nat} {l b : mi_L} {st d : List Value} (h : mi_st2 ok nL k pc' l st = some (a, b, d)) : ∃ v r, st = v :: r ∧ ok v = true ∧ k + 1 < nL ∧ a = pc' ∧ b = mi_s2 l k v ∧ d = r := by
  unfold mi_st2 at h
  cases st with
  | nil => cases h
  | cons v r =>
    by_cases ho : (ok v && decide (k + 1 < nL)) = true
    · simp only [ho, if_true] at h
      cases h
      simp only [Bool.and_eq_true, decide_eq_true_eq] at ho
      exact ⟨v, _, rfl, ho.1, ho.2, rfl, rfl, rfl⟩
    · simp [ho] at h
theorem mi_ii_inv {f : Int32 → Int32 → Option Value} {pc' a : Nat} {l b : mi_L} {st d : List Value} (h : mi_ii f pc' l st = some (a, b, d)) : ∃ x y v r, st = .int y :: .int x :: r ∧ f x y = some v ∧ a = pc' ∧ b = l ∧ d = v :: r := by
  unfold mi_ii at h
  split at h
  next y x r =>
    cases hf : f x y with
    | none => simp [hf] at h
    | some v =>
      simp only [hf] at h
      cases h
      exact ⟨x, y, v, r, rfl, hf, rfl, rfl, rfl⟩
  next => cases h
theorem mi_ll_inv {f : Int64 → Int64 → Option Value} {pc' a : Nat} {l b : mi_L} {st d : List Value} (h : mi_ll f pc' l st = some (a, b, d)) : ∃ x y v r, st = .long y :: .long x :: r ∧ f x y = some v ∧ a = pc' ∧ b = l ∧ d = v :: r := by
  unfold mi_ll at h
  split at h
  next y x r =>
    cases hf : f x y with
    | none => simp [hf] at h
    | some v =>
      simp only [hf] at h
      cases h
      exact ⟨x, y, v, r, rfl, hf, rfl, rfl, rfl⟩
  next => cases h
theorem mi_dd_inv {f : UInt64 → UInt64 → Option Value} {pc' a : Nat} {l b : mi_L} {st d : List Value} (h : mi_dd f pc' l st = some (a, b, d)) : ∃ x y v r, st = .double y :: .double x :: r ∧ f x y = some v ∧ a = pc' ∧ b = l ∧ d = v :: r := by
  unfold mi_dd at h
  split at h
  next y x r =>
    cases hf : f x y with
    | none => simp [hf] at h
    | some v =>
      simp only [hf] at h
      cases h
      exact ⟨x, y, v, r, rfl, hf, rfl, rfl, rfl⟩
  next => cases h
theorem mi_li_inv {f : Int64 → Int32 → Value} {pc' a : Nat} {l b : mi_L} {st d : List Value} (h : mi_li f pc' l st = some (a, b, d)) : ∃ x y r, st = .int y :: .long x :: r ∧ a = pc' ∧ b = l ∧ d = f x y :: r := by
  unfold mi_li at h
  split at h
  next y x r => cases h; exact ⟨x, y, r, rfl, rfl, rfl, rfl⟩
  next => cases h
theorem mi_i1_inv {f : Int32 → Value} {pc' a : Nat} {l b : mi_L} {st d : List Value} (h : mi_i1 f pc' l st = some (a, b, d)) : ∃ x r, st = .int x :: r ∧ a = pc' ∧ b = l ∧ d = f x :: r := by
  unfold mi_i1 at h
  split at h
  next x r => cases h; exact ⟨x, r, rfl, rfl, rfl, rfl⟩
  next => cases h
theorem mi_l1_inv {f : Int64 → Value} {pc' a : Nat} {l b : mi_L} {st d : List Value} (h : mi_l1 f pc' l st = some (a, b, d)) : ∃ x r, st = .long x :: r ∧ a = pc' ∧ b = l ∧ d = f x :: r := by
  unfold mi_l1 at h
  split at h
  next x r => cases h; exact ⟨x, r, rfl, rfl, rfl, rfl⟩
  next => cases h
theorem mi_goto_inv {pc a : Nat} {off : Int} {l b : mi_L} {st d : List Value} (h : mi_goto pc off l st = some (a, b, d)) : (pc : Int) + off = (a : Int) ∧ b = l ∧ d = st := by
  unfold mi_goto at h
  cases hj : mi_jmp pc off with
  | none => simp [hj] at h
  | some t =>
    simp only [hj] at h
    cases h
    exact ⟨mi_jmp_eq hj, rfl, rfl⟩
theorem mi_c1_inv {f : Int32 → Bool} {pc a : Nat} {off : Int} {l b : mi_L} {st d : List Value} (h : mi_c1 f pc off l st = some (a, b, d)) : ∃ x r t, st = .int x :: r ∧ b = l ∧ d = r ∧ (pc : Int) + off = ((t : Nat) : Int) ∧ a = if f x then t else pc + 3 := by
  unfold mi_c1 at h
  split at h
  next x r =>
    cases hj : mi_jmp pc off with
    | none => simp [hj] at h
    | some t =>
      simp only [hj] at h
      cases h
      exact ⟨x, _, t, rfl, rfl, rfl, mi_jmp_eq hj, rfl⟩
  next => cases h
theorem mi_c2_inv {f : Int32 → Int32 → Bool} {pc a : Nat} {off : Int} {l b : mi_L} {st d : List Value} (h : mi_c2 f pc off l st = some (a, b, d)) : ∃ x y r t, st = .int y :: .int x :: r ∧ b = l ∧ d = r ∧ (pc : Int) + off = ((t : Nat) : Int) ∧ a = if f x y then t else pc + 3 := by
  unfold mi_c2 at h
  split at h
  next y x r =>
    cases hj : mi_jmp pc off with
    | none => simp [hj] at h
    | some t =>
      simp only [hj] at h
      cases h
      exact ⟨x, y, _, t, rfl, rfl, rfl, mi_jmp_eq hj, rfl⟩
  next => cases h
/-! the machine's stack below abstract tops -/
theorem mi_rl_i {ad : List Nat} {cn : Nat → Nat} {x : Int32} {r ws : List Value} (h : mi_rl ad cn (.int x :: r) ws) : ∃ w, ws = .int x :: w ∧ mi_rl ad cn r w := by
  obtain ⟨w, ws', e, a, b⟩ := h
  have a' : w = .int x := a
  subst a'
  exact ⟨ws', e, b⟩
theorem mi_rl_l {ad : List Nat} {cn : Nat → Nat} {x : Int64} {r ws : List Value} (h : mi_rl ad cn (.long x :: r) ws) : ∃ w, ws = .long x :: w ∧ mi_rl ad cn r w := by
  obtain ⟨w, ws', e, a, b⟩ := h
  have a' : w = .long x := a
  subst a'
  exact ⟨ws', e, b⟩
theorem mi_rl_d {ad : List Nat} {cn : Nat → Nat} {x : UInt64} {r ws : List Value} (h : mi_rl ad cn (.double x :: r) ws) : ∃ w, ws = .double x :: w ∧ mi_rl ad cn r w := by
  obtain ⟨w, ws', e, a, b⟩ := h
  have a' : w = .double x := a
  subst a'
  exact ⟨ws', e, b⟩
theorem mi_rl_ii {ad : List Nat} {cn : Nat → Nat} {x y : Int32} {r ws : List Value} (h : mi_rl ad cn (.int y :: .int x :: r) ws) : ∃ w, ws = .int y :: .int x :: w ∧ mi_rl ad cn r w := by
  obtain ⟨w, rfl, h1⟩ := mi_rl_i h
  obtain ⟨w2, rfl, h2⟩ := mi_rl_i h1
  exact ⟨w2, rfl, h2⟩
theorem mi_rl_ll {ad : List Nat} {cn : Nat → Nat} {x y : Int64} {r ws : List Value} (h : mi_rl ad cn (.long y :: .long x :: r) ws) : ∃ w, ws = .long y :: .long x :: w ∧ mi_rl ad cn r w := by
  obtain ⟨w, rfl, h1⟩ := mi_rl_l h
  obtain ⟨w2, rfl, h2⟩ := mi_rl_l h1
  exact ⟨w2, rfl, h2⟩
theorem mi_rl_dd {ad : List Nat} {cn : Nat → Nat} {x y : UInt64} {r ws : List Value} (h : mi_rl ad cn (.double y :: .double x :: r) ws) : ∃ w, ws = .double y :: .double x :: w ∧ mi_rl ad cn r w := by
  obtain ⟨w, rfl, h1⟩ := mi_rl_d h
  obtain ⟨w2, rfl, h2⟩ := mi_rl_d h1
  exact ⟨w2, rfl, h2⟩
theorem mi_rl_li {ad : List Nat} {cn : Nat → Nat} {x : Int64} {y : Int32} {r ws : List Value} (h : mi_rl ad cn (.int y :: .long x :: r) ws) : ∃ w, ws = .int y :: .long x :: w ∧ mi_rl ad cn r w := by
  obtain ⟨w, rfl, h1⟩ := mi_rl_i h
  obtain ⟨w2, rfl, h2⟩ := mi_rl_l h1
  exact ⟨w2, rfl, h2⟩
theorem mi_rl_c {ad : List Nat} {cn : Nat → Nat} {v w : Value} {r ws : List Value} (a : mi_rv ad cn v w) (h : mi_rl ad cn r ws) : mi_rl ad cn (v :: r) (w :: ws) := ⟨w, ws, rfl, a, h⟩
theorem mi_rv_A {ad : List Nat} {cn : Nat → Nat} {v w : Value} (h : mi_rv ad cn v w) (ok : mi_isA v = true) : w = .null ∨ ∃ a, w = .ref a := by
  cases v <;> simp only [mi_isA, Bool.false_eq_true] at ok
  case null => exact Or.inl h
  case ref => obtain ⟨a, -, e⟩ := h; exact Or.inr ⟨a, e⟩
  case retAddr => exact Or.inr ⟨_, h⟩
  case float => exact h
