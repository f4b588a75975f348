/-! ===== Tokens.read (printed by wip/gen/p_read.py) ===== -/
/-- at p stand the bytes of a token of kind k -/
def tki (σ : mi_Sg) (p : Int) (bs : List Int) (k : Int) (key : Int64) : Prop := tby σ p bs ∧ (0 < bs.length ∧ p + bs.length ≤ mi_sF σ 3 6) ∧ (0 ≤ k ∧ k ≤ 100 ∧ k ≠ 18 ∧ k ≠ 19) ∧
  (((∀ (i : Nat) (b : Int), bs[i]? = some b → sm b ∨ (0 < i ∧ dg b)) ∧ bs.length ≤ 8 ∧ (p + bs.length < mi_sF σ 3 6 → ¬ sm (mi_sA σ 1 (p + bs.length)) ∧ ¬ dg (mi_sA σ 1 (p + bs.length))) ∧ (∀ x, kw_P σ (kwd bs) x → x = k) ∧ key = kwd bs) ∨
   (∃ b, bs = [39, b] ∧ sm b ∧ k = 15 ∧ key = (Int32.ofInt b).toInt64) ∨ (bs = [45, 62] ∧ k = 17 ∧ key = 0) ∨ (∃ c, (c = 40 ∨ c = 41 ∨ c = 44 ∨ c = 59 ∨ c = 58 ∨ c = 61 ∨ c = 42) ∧ bs = [c] ∧ k = c ∧ key = 0))
theorem tby_0 {σ : mi_Sg} {p b : Int} {bs : List Int} (h : tby σ p (b :: bs)) : mi_sA σ 1 p = b := by
  have := h 0 b rfl
  rw [show p + ((0 : Nat) : Int) = p by omega] at this
  exact this
theorem tki_nb {σ : mi_Sg} {p k : Int} {bs : List Int} {key : Int64} (h : tki σ p bs k key) : mi_sA σ 1 p ≠ 32 ∧ mi_sA σ 1 p ≠ 10 := by
  obtain ⟨T, ⟨l0, l1⟩, -, h⟩ := h
  rcases h with ⟨hb, -⟩ | ⟨b, rfl, -⟩ | ⟨rfl, -⟩ | ⟨c, hc, rfl, -⟩
  · match bs, l0, T, hb with
    | b :: bs, _, T, hb =>
      rw [tby_0 T]
      rcases hb 0 b rfl with ⟨q1, q2⟩ | ⟨q, -⟩
      · omega
      · omega
  · rw [tby_0 T]; omega
  · rw [tby_0 T]; omega
  · rw [tby_0 T]; omega
theorem to_item {X : mi_X} {d : Nat} {σ : mi_Sg} {p k : Int} {bs : List Int} {key : Int64} (t : tpx σ) (p0 : 0 ≤ p) (n0 : 0 ≤ mi_sF σ 3 7) (n2 : mi_sF σ 3 7 < 300) (h : tki σ p bs k key) : ty_Ci X (d + 10) mi_M118 [(0, .ref 3), (1, .int (Int32.ofInt p))] σ (fun x σ' => x = p + bs.length ∧ σ' = tadd σ k p (p + bs.length) key) := by
  obtain ⟨T, ⟨l0, l1⟩, -, h⟩ := h
  rcases h with ⟨hb, l8, hn, hk, e2⟩ | ⟨b, e1, ⟨v1, v2⟩, e2, e3⟩ | ⟨e1, e2, e3⟩ | ⟨c, hc, e1, e2, e3⟩
  · have hf : 97 ≤ mi_sA σ 1 p ∧ mi_sA σ 1 p ≤ 122 := by
      match bs, l0, T, hb with
      | b :: bs, _, T, hb =>
        rw [tby_0 T]
        rcases hb 0 b rfl with q | ⟨q, -⟩
        · exact q
        · omega
    rw [e2]
    exact to_tw (d := d + 8) n0 n2 t p0 (by omega) hf.1 hf.2 (to_word (d := d + 8) t p0 T hb ⟨l0, l8⟩ l1 hn hk n0 (by omega))
  · subst e1 e2 e3
    have q1 := tby_0 T
    have q2 := T 1 b rfl
    have e : p + (([39, b] : List Int).length : Int) = p + 2 := rfl
    rw [e] at l1 ⊢
    exact to_tm (d := d + 8) n0 n2 t p0 (by omega) q1 q2 v1 v2
  · subst e1 e2 e3
    have q1 := tby_0 T
    have q2 := T 1 62 rfl
    have e : p + (([45, 62] : List Int).length : Int) = p + 2 := rfl
    rw [e] at l1 ⊢
    exact to_ts (d := d + 8) n0 n2 t p0 (by omega) q1 (by omega) (by omega) (by omega) (by omega) (to_arrow (d := d) n0 (by omega) t p0 (by omega) q2)
  · subst e1 e2 e3
    have q1 := tby_0 T
    have e : p + (([k] : List Int).length : Int) = p + 1 := rfl
    rw [e] at l1 ⊢
    refine to_ts (d := d + 8) n0 n2 t p0 (by omega) q1 (by omega) (by omega) (by omega) (by omega) ?_
    rcases hc with rfl | rfl | rfl | rfl | rfl | rfl | rfl
    · exact to_sym40 n0 (by omega)
    · exact to_sym41 n0 (by omega)
    · exact to_sym44 n0 (by omega)
    · exact to_sym59 n0 (by omega)
    · exact to_sym58 n0 (by omega)
    · exact to_sym61 n0 (by omega)
    · exact to_sym42 n0 (by omega)
/-- a text: tokens, each behind some blanks -/
def tlay (σ : mi_Sg) : Int → List (Nat × List Int × Int × Int64) → Prop
  | p, [] => p ≤ mi_sF σ 3 6 ∧ ∀ i, p ≤ i → i < mi_sF σ 3 6 → mi_sA σ 1 i = 32
  | p, (bl, bs, k, key) :: r => (∀ i, p ≤ i → i < p + bl → mi_sA σ 1 i = 32) ∧ tki σ (p + bl) bs k key ∧ tlay σ (p + bl + bs.length) r
/-- what reading leaves as it is -/
def tf (σ σ' : mi_Sg) : Prop := (∀ (k : Nat) (i : Int), k ∉ [5, 6, 7] → mi_sA σ' k i = mi_sA σ k i) ∧ (∀ k j : Nat, (k, j) ∉ [(3, 7)] → mi_sF σ' k j = mi_sF σ k j) ∧ (∀ (k : Nat) (i : Int), k ≠ 8 → mi_sE σ' k i = mi_sE σ k i) ∧ ∀ k j : Nat, mi_sB σ' k j = mi_sB σ k j
theorem tf_rf {σ : mi_Sg} : tf σ σ := ⟨fun _ _ _ => rfl, fun _ _ _ => rfl, fun _ _ _ => rfl, fun _ _ => rfl⟩
theorem tf_tr {a b c : mi_Sg} (p : tf a b) (q : tf b c) : tf a c := ⟨fun k i h => (q.1 k i h).trans (p.1 k i h), fun k j h => (q.2.1 k j h).trans (p.2.1 k j h), fun k i h => (q.2.2.1 k i h).trans (p.2.2.1 k i h), fun k j => (q.2.2.2 k j).trans (p.2.2.2 k j)⟩
theorem tf_add {σ : mi_Sg} {k p e : Int} {key : Int64} : tf σ (tadd σ k p e key) ∧ mi_sF (tadd σ k p e key) 3 7 = mi_sF σ 3 7 + 1 ∧ (∀ i, mi_sA (tadd σ k p e key) 5 i = if i = mi_sF σ 3 7 then k else mi_sA σ 5 i) ∧ ∀ i, mi_sE (tadd σ k p e key) 8 i = if i = mi_sF σ 3 7 then key else mi_sE σ 8 i := by
  refine ⟨⟨fun k' i h => ?_, fun k' j h => ?_, fun k' i h => ?_, fun k' j => rfl⟩, rfl, fun i => ?_, fun i => ?_⟩
  · simp only [List.mem_cons, List.not_mem_nil, or_false, not_or] at h
    unfold tadd
    simp only [mi_AF, mi_AE, mi_AA, h, false_and, if_false]
  · simp only [List.mem_cons, List.not_mem_nil, or_false, Prod.mk.injEq, not_and] at h
    unfold tadd
    show (if k' = 3 ∧ j = 7 then _ else _) = _
    rw [if_neg (fun q => h q.1 q.2)]
    rfl
  · show (if k' = 8 ∧ i = _ then _ else _) = _
    rw [if_neg (fun q => h q.1)]
    rfl
  · unfold tadd
    simp only [mi_AF, mi_AE, mi_AA]
    by_cases q : i = mi_sF σ 3 7
    · simp [q]
    · simp [q]
  · show (if 8 = 8 ∧ i = _ then _ else _) = _
    by_cases q : i = mi_sF σ 3 7
    · rw [if_pos ⟨rfl, q⟩, if_pos q]
    · rw [if_neg (fun w => q w.2), if_neg q]
      rfl

theorem tf_tki {σ σ' : mi_Sg} (h : tf σ σ') {p k : Int} {bs : List Int} {key : Int64} : tki σ' p bs k key = tki σ p bs k key := by
  have h1 : mi_sA σ' 1 = mi_sA σ 1 := funext (fun i => h.1 1 i (by decide))
  have h2 : mi_sF σ' 3 6 = mi_sF σ 3 6 := h.2.1 3 6 (by decide)
  have h3 : mi_sE σ' 4 = mi_sE σ 4 := funext (fun i => h.2.2.1 4 i (by decide))
  unfold tki tby kw_P
  rw [h1, h2, h3]
theorem tf_tlay {σ σ' : mi_Sg} (h : tf σ σ') : ∀ (l : List (Nat × List Int × Int × Int64)) (p : Int), tlay σ p l → tlay σ' p l
  | [], p, q => by
    have h1 : mi_sA σ' 1 = mi_sA σ 1 := funext (fun i => h.1 1 i (by decide))
    have h2 : mi_sF σ' 3 6 = mi_sF σ 3 6 := h.2.1 3 6 (by decide)
    unfold tlay at q ⊢
    rw [h1, h2]
    exact q
  | (bl, bs, k, key) :: r, p, q => by
    have h1 : mi_sA σ' 1 = mi_sA σ 1 := funext (fun i => h.1 1 i (by decide))
    unfold tlay at q ⊢
    rw [h1, tf_tki h]
    exact ⟨q.1, q.2.1, tf_tlay h r _ q.2.2⟩
theorem tf_tpx {σ σ' : mi_Sg} (h : tf σ σ') (t : tpx σ) : tpx σ' := by
  have h1 : mi_sA σ' 1 = mi_sA σ 1 := funext (fun i => h.1 1 i (by decide))
  have h2 : mi_sF σ' 3 6 = mi_sF σ 3 6 := h.2.1 3 6 (by decide)
  unfold tpx at t ⊢
  rw [h1, h2]
  exact t
/-- what was read -/
def rdQ (n : Int) (its : List (Nat × List Int × Int × Int64)) (σ σ' : mi_Sg) : Prop := tf σ σ' ∧ mi_sF σ' 3 7 = n + its.length + 1 ∧ (∀ i, i < n → mi_sA σ' 5 i = mi_sA σ 5 i ∧ mi_sE σ' 8 i = mi_sE σ 8 i) ∧ (∀ (i : Nat) (q : Nat × List Int × Int × Int64), its[i]? = some q → mi_sA σ' 5 (n + i) = q.2.2.1 ∧ mi_sE σ' 8 (n + i) = q.2.2.2) ∧ mi_sA σ' 5 (n + its.length) = 18
theorem to_read_l {X : mi_X} {d : Nat} {h0 : mi_H} {len : Int} : ∀ (its : List (Nat × List Int × Int × Int64)) (σ : mi_Sg) (p n : Int), n = mi_sF σ 3 7 → 0 ≤ n → n + its.length < 299 → 0 ≤ p → tpx σ → tlay σ p its → ∀ h, ty_H h σ → mi_Fm h0 h → mi_wp X (d + 12) mi_M116 29 [(4, .int (Int32.ofInt n)), (3, .int (Int32.ofInt 1)), (2, .int (Int32.ofInt p)), (0, .ref 3), (1, .int (Int32.ofInt len))] [] h 0 0 (fun z => ∃ v h' σ', z = (.inl v, h', 0, 0) ∧ ty_H h' σ' ∧ mi_Fm h0 h' ∧ v = none ∧ rdQ n its σ σ') := by
  intro its
  induction its with
  | nil =>
    intro σ p n hn n0 nl p0 t lay h S fr
    obtain ⟨l0, l1⟩ := lay
    have t0 := t.1.1
    have t1 := t.1.2
    rw [List.length_nil] at nl
    refine mi_wp_p (pc' := 31) (st' := [.int (Int32.ofInt n)]) rfl rfl rfl ?_
    refine mi_s_k (pc' := 34) (e := 300) rfl rfl rfl (by decide +kernel) ?_
    refine mi_s_if2 (t := 85) rfl rfl rfl (by unfold mi_R; omega) (by unfold mi_R; omega) (fun hc_ => absurd (show 300 < n from hc_) (by omega)) (fun _ => ?_)
    refine mi_wp_p (pc' := 38) (st' := [.int (Int32.ofInt 1)]) rfl rfl rfl ?_
    refine mi_s_if1 (t := 85) rfl rfl rfl (by unfold mi_R; omega) (fun hc_ => absurd (show (1 : Int) = 0 from hc_) (by omega)) (fun _ => ?_)
    refine mi_wp_p (pc' := 42) (st' := [.ref 3]) rfl rfl rfl ?_
    refine mi_wp_p (pc' := 43) (st' := [.ref 3, .ref 3]) rfl rfl rfl ?_
    refine mi_wp_p (pc' := 44) (st' := [.int (Int32.ofInt p), .ref 3, .ref 3]) rfl rfl rfl ?_
    refine ty_s_ci rfl rfl rfl rfl rfl rfl (mi_cal_v2 (np := 1) (args := [.ref 3, .int (Int32.ofInt p)]) (rest := [.ref 3]) rfl rfl rfl rfl rfl (Nat.le_of_ble_eq_true rfl) rfl rfl (Nat.le_of_ble_eq_true rfl) (ty_rcS S (List.mem_of_getElem? (i := 3) rfl))) (Nat.le_of_ble_eq_true rfl) S (to_past (d := d + 10) (e := mi_sF σ 3 6) p0 (by omega) t l1 (Int.le_refl _) (fun q => absurd q (Int.lt_irrefl _))) ?_
    intro x hh σu S f P
    obtain ⟨e1, e2⟩ := P
    rw [e2] at S
    rw [e1]
    clear e1 e2
    replace fr := mi_Fm_tr fr f
    refine ty_s_ci rfl rfl rfl rfl rfl rfl (mi_cal_v2 (np := 1) (args := [.ref 3, .int (Int32.ofInt (mi_sF σ 3 6))]) (rest := []) rfl rfl rfl rfl rfl (Nat.le_of_ble_eq_true rfl) rfl rfl (Nat.le_of_ble_eq_true rfl) (ty_rcS S (List.mem_of_getElem? (i := 3) rfl))) (Nat.le_of_ble_eq_true rfl) S (to_end (d := d + 10) (by omega) (by omega) t rfl) ?_
    intro x hh σ1 S f P
    obtain ⟨e1, e2⟩ := P
    rw [e1]
    obtain ⟨f1, f2, f3, f4⟩ := tf_add (σ := σ) (k := 18) (p := mi_sF σ 3 6) (e := mi_sF σ 3 6 + 1) (key := 0)
    rw [← e2] at f1 f2 f3 f4
    have k5 := f3 n
    rw [if_pos hn] at k5
    clear e1
    replace fr := mi_Fm_tr fr f
    refine mi_wp_p (pc' := 51) (l' := [(2, .int (Int32.ofInt (mi_sF σ 3 6 + 1))), (4, .int (Int32.ofInt n)), (3, .int (Int32.ofInt 1)), (0, .ref 3), (1, .int (Int32.ofInt len))]) (st' := []) rfl rfl rfl ?_
    refine mi_wp_p (pc' := 52) (st' := [.ref 3]) rfl rfl rfl ?_
    refine mi_wp_p (pc' := 54) (st' := [.int (Int32.ofInt n), .ref 3]) rfl rfl rfl ?_
    refine ty_s_ci rfl rfl rfl rfl rfl rfl (mi_cal_v2 (np := 1) (args := [.ref 3, .int (Int32.ofInt n)]) (rest := []) rfl rfl rfl rfl rfl (Nat.le_of_ble_eq_true rfl) rfl rfl (Nat.le_of_ble_eq_true rfl) (ty_rcS S (List.mem_of_getElem? (i := 3) rfl))) (Nat.le_of_ble_eq_true rfl) S (to_kindOf (by omega) (by omega) (by omega)) ?_
    intro x hh σu S f P
    obtain ⟨e1, e2⟩ := P
    rw [e2] at S
    rw [e1, k5]
    clear e1 e2
    replace fr := mi_Fm_tr fr f
    refine mi_s_k (pc' := 59) (e := 18) rfl rfl rfl (by decide +kernel) ?_
    refine mi_s_if2 (t := 77) rfl rfl rfl (by unfold mi_R; omega) (by unfold mi_R; omega) (fun _ => ?_) (fun hc_ => absurd (show (18 : Int) = 18 by omega) hc_)
    refine mi_wp_p (pc' := 78) (st' := [.int (Int32.ofInt 0)]) rfl rfl rfl ?_
    refine mi_wp_p (pc' := 79) (l' := [(3, .int (Int32.ofInt 0)), (2, .int (Int32.ofInt (mi_sF σ 3 6 + 1))), (4, .int (Int32.ofInt n)), (0, .ref 3), (1, .int (Int32.ofInt len))]) (st' := []) rfl rfl rfl ?_
    refine mi_s_inc (l' := [(4, .int (Int32.ofInt (n + 1))), (3, .int (Int32.ofInt 0)), (2, .int (Int32.ofInt (mi_sF σ 3 6 + 1))), (0, .ref 3), (1, .int (Int32.ofInt len))]) rfl rfl rfl (by decide) rfl ?_
    refine mi_wp_p (pc' := 29) rfl rfl rfl ?_
    refine mi_wp_p (pc' := 31) (st' := [.int (Int32.ofInt (n + 1))]) rfl rfl rfl ?_
    refine mi_s_k (pc' := 34) (e := 300) rfl rfl rfl (by decide +kernel) ?_
    refine mi_s_if2 (t := 85) rfl rfl rfl (by unfold mi_R; omega) (by unfold mi_R; omega) (fun hc_ => absurd (show 300 < (n + 1) from hc_) (by omega)) (fun _ => ?_)
    refine mi_wp_p (pc' := 38) (st' := [.int (Int32.ofInt 0)]) rfl rfl rfl ?_
    refine mi_s_if1 (t := 85) rfl rfl rfl (by unfold mi_R; omega) (fun _ => ?_) (fun hc_ => absurd (show (0 : Int) = 0 by omega) hc_)
    refine ty_s_ret S fr rfl rfl rfl rfl ⟨rfl, f1, ?_, fun i hi => ?_, fun i q hq => ?_, ?_⟩
    · rw [f2, List.length_nil]; omega
    · exact ⟨(f3 i).trans (if_neg (by omega)), (f4 i).trans (if_neg (by omega))⟩
    · simp at hq
    · rw [List.length_nil, show n + ((0 : Nat) : Int) = n by omega]; exact k5
  | cons q its ih =>
    obtain ⟨bl, bs, k, key⟩ := q
    intro σ p n hn n0 nl p0 t lay h S fr
    obtain ⟨l0, l1, l2⟩ := lay
    have t0 := t.1.1
    have t1 := t.1.2
    rw [List.length_cons] at nl
    obtain ⟨-, ⟨b0, b1⟩, ⟨k0, k1, k18, k19⟩, -⟩ := id l1
    refine mi_wp_p (pc' := 31) (st' := [.int (Int32.ofInt n)]) rfl rfl rfl ?_
    refine mi_s_k (pc' := 34) (e := 300) rfl rfl rfl (by decide +kernel) ?_
    refine mi_s_if2 (t := 85) rfl rfl rfl (by unfold mi_R; omega) (by unfold mi_R; omega) (fun hc_ => absurd (show 300 < n from hc_) (by omega)) (fun _ => ?_)
    refine mi_wp_p (pc' := 38) (st' := [.int (Int32.ofInt 1)]) rfl rfl rfl ?_
    refine mi_s_if1 (t := 85) rfl rfl rfl (by unfold mi_R; omega) (fun hc_ => absurd (show (1 : Int) = 0 from hc_) (by omega)) (fun _ => ?_)
    refine mi_wp_p (pc' := 42) (st' := [.ref 3]) rfl rfl rfl ?_
    refine mi_wp_p (pc' := 43) (st' := [.ref 3, .ref 3]) rfl rfl rfl ?_
    refine mi_wp_p (pc' := 44) (st' := [.int (Int32.ofInt p), .ref 3, .ref 3]) rfl rfl rfl ?_
    refine ty_s_ci rfl rfl rfl rfl rfl rfl (mi_cal_v2 (np := 1) (args := [.ref 3, .int (Int32.ofInt p)]) (rest := [.ref 3]) rfl rfl rfl rfl rfl (Nat.le_of_ble_eq_true rfl) rfl rfl (Nat.le_of_ble_eq_true rfl) (ty_rcS S (List.mem_of_getElem? (i := 3) rfl))) (Nat.le_of_ble_eq_true rfl) S (to_past (d := d + 10) (e := p + bl) p0 (by omega) t l0 (by omega) (fun _ => tki_nb l1)) ?_
    intro x hh σu S f P
    obtain ⟨e1, e2⟩ := P
    rw [e2] at S
    rw [e1]
    clear e1 e2
    replace fr := mi_Fm_tr fr f
    refine ty_s_ci rfl rfl rfl rfl rfl rfl (mi_cal_v2 (np := 1) (args := [.ref 3, .int (Int32.ofInt (p + bl))]) (rest := []) rfl rfl rfl rfl rfl (Nat.le_of_ble_eq_true rfl) rfl rfl (Nat.le_of_ble_eq_true rfl) (ty_rcS S (List.mem_of_getElem? (i := 3) rfl))) (Nat.le_of_ble_eq_true rfl) S (to_item (d := d + 1) t (by omega) (by omega) (by omega) l1) ?_
    intro x hh σ1 S f P
    obtain ⟨e1, e2⟩ := P
    rw [e1]
    obtain ⟨f1, f2, f3, f4⟩ := tf_add (σ := σ) (k := k) (p := p + bl) (e := p + bl + bs.length) (key := key)
    rw [← e2] at f1 f2 f3 f4
    have k5 := f3 n
    rw [if_pos hn] at k5
    clear e1
    replace fr := mi_Fm_tr fr f
    refine mi_wp_p (pc' := 51) (l' := [(2, .int (Int32.ofInt (p + bl + bs.length))), (4, .int (Int32.ofInt n)), (3, .int (Int32.ofInt 1)), (0, .ref 3), (1, .int (Int32.ofInt len))]) (st' := []) rfl rfl rfl ?_
    refine mi_wp_p (pc' := 52) (st' := [.ref 3]) rfl rfl rfl ?_
    refine mi_wp_p (pc' := 54) (st' := [.int (Int32.ofInt n), .ref 3]) rfl rfl rfl ?_
    refine ty_s_ci rfl rfl rfl rfl rfl rfl (mi_cal_v2 (np := 1) (args := [.ref 3, .int (Int32.ofInt n)]) (rest := []) rfl rfl rfl rfl rfl (Nat.le_of_ble_eq_true rfl) rfl rfl (Nat.le_of_ble_eq_true rfl) (ty_rcS S (List.mem_of_getElem? (i := 3) rfl))) (Nat.le_of_ble_eq_true rfl) S (to_kindOf (by omega) (by omega) (by omega)) ?_
    intro x hh σu S f P
    obtain ⟨e1, e2⟩ := P
    rw [e2] at S
    rw [e1, k5]
    clear e1 e2
    replace fr := mi_Fm_tr fr f
    refine mi_s_k (pc' := 59) (e := 18) rfl rfl rfl (by decide +kernel) ?_
    refine mi_s_if2 (t := 77) rfl rfl rfl (by unfold mi_R; omega) (by unfold mi_R; omega) (fun hc_ => absurd (show k = 18 from hc_) (by omega)) (fun _ => ?_)
    refine mi_wp_p (pc' := 63) (st' := [.ref 3]) rfl rfl rfl ?_
    refine mi_wp_p (pc' := 65) (st' := [.int (Int32.ofInt n), .ref 3]) rfl rfl rfl ?_
    refine ty_s_ci rfl rfl rfl rfl rfl rfl (mi_cal_v2 (np := 1) (args := [.ref 3, .int (Int32.ofInt n)]) (rest := []) rfl rfl rfl rfl rfl (Nat.le_of_ble_eq_true rfl) rfl rfl (Nat.le_of_ble_eq_true rfl) (ty_rcS S (List.mem_of_getElem? (i := 3) rfl))) (Nat.le_of_ble_eq_true rfl) S (to_kindOf (by omega) (by omega) (by omega)) ?_
    intro x hh σu S f P
    obtain ⟨e1, e2⟩ := P
    rw [e2] at S
    rw [e1, k5]
    clear e1 e2
    replace fr := mi_Fm_tr fr f
    refine mi_s_k (pc' := 70) (e := 19) rfl rfl rfl (by decide +kernel) ?_
    refine mi_s_if2 (t := 77) rfl rfl rfl (by unfold mi_R; omega) (by unfold mi_R; omega) (fun hc_ => absurd (show k = 19 from hc_) (by omega)) (fun _ => ?_)
    refine mi_wp_p (pc' := 74) (st' := [.int (Int32.ofInt 1)]) rfl rfl rfl ?_
    refine mi_wp_p (pc' := 78) rfl rfl rfl ?_
    refine mi_wp_p (pc' := 79) (l' := [(3, .int (Int32.ofInt 1)), (2, .int (Int32.ofInt (p + bl + bs.length))), (4, .int (Int32.ofInt n)), (0, .ref 3), (1, .int (Int32.ofInt len))]) (st' := []) rfl rfl rfl ?_
    refine mi_s_inc (l' := [(4, .int (Int32.ofInt (n + 1))), (3, .int (Int32.ofInt 1)), (2, .int (Int32.ofInt (p + bl + bs.length))), (0, .ref 3), (1, .int (Int32.ofInt len))]) rfl rfl rfl (by decide) rfl ?_
    refine mi_wp_p (pc' := 29) rfl rfl rfl ?_
    refine mi_wp_lw (l := [(4, .int (Int32.ofInt (n + 1))), (3, .int (Int32.ofInt 1)), (2, .int (Int32.ofInt (p + bl + bs.length))), (0, .ref 3), (1, .int (Int32.ofInt len))]) (mi_lw_of (show List.Nodup [4, 3, 2, 0, 1] by decide) ⟨rfl, rfl, rfl, rfl, rfl, trivial⟩) ?_
    refine mi_wp_q (ih σ1 (p + bl + bs.length) (n + 1) (by omega) (by omega) (by omega) (by omega) (tf_tpx f1 t) (tf_tlay f1 _ _ l2) _ S fr) (fun z hz => ?_)
    obtain ⟨v, h', σ', a1, a2, a3, a4, a5, a6, a7, a8, a9⟩ := hz
    refine ⟨v, h', σ', a1, a2, a3, a4, tf_tr f1 a5, ?_, fun i hi => ?_, fun i q hq => ?_, ?_⟩
    · rw [a6, List.length_cons]; omega
    · have w := a7 i (by omega)
      exact ⟨w.1.trans ((f3 i).trans (if_neg (by omega))), w.2.trans ((f4 i).trans (if_neg (by omega)))⟩
    · cases i with
      | zero =>
        obtain rfl := Option.some.inj hq
        have w := a7 n (by omega)
        rw [show n + ((0 : Nat) : Int) = n by omega]
        exact ⟨w.1.trans k5, w.2.trans ((f4 n).trans (if_pos hn))⟩
      | succ i =>
        have w := a8 i q hq
        rw [show n + ((i + 1 : Nat) : Int) = n + 1 + (i : Int) by omega]
        exact w
    · rw [List.length_cons, show n + ((its.length + 1 : Nat) : Int) = n + 1 + (its.length : Int) by omega]; exact a9
theorem to_read {X : mi_X} {d : Nat} {σ : mi_Sg} {len : Int} {its : List (Nat × List Int × Int × Int64)} (l0 : 0 ≤ len) (l1 : len ≤ 1200) (hi : its.length < 299) (t : tpx (mi_uF (mi_uF σ 3 6 len) 3 7 0)) (lay : tlay (mi_uF (mi_uF σ 3 6 len) 3 7 0) 0 its) : ty_Cv X (d + 12) mi_M116 [(0, .ref 3), (1, .int (Int32.ofInt len))] σ (fun σ' => rdQ 0 its (mi_uF (mi_uF σ 3 6 len) 3 7 0) σ') := by
  intro h S
  have fr := mi_Fm_rf h
  refine mi_wp_p (pc' := 1) (st' := [.ref 3]) rfl rfl rfl ?_
  refine mi_wp_p (pc' := 2) (st' := [.int (Int32.ofInt len), .ref 3]) rfl rfl rfl ?_
  refine mi_wp_p (pc' := 3) (st' := [.int (Int32.ofInt 0), .int (Int32.ofInt len), .ref 3]) rfl rfl rfl ?_
  refine mi_s_mx rfl rfl rfl (Nat.le_of_ble_eq_true rfl) (by unfold mi_R; omega) (by unfold mi_R; omega) ?_
  refine mi_wp_p (pc' := 7) (st' := [.ref 3, .int (Int32.ofInt (max len 0)), .ref 3]) rfl rfl rfl ?_
  refine ty_s_gr S rfl rfl rfl (List.mem_of_getElem? (i := 10) rfl) ?_
  refine ty_s_lna S rfl rfl (List.mem_of_getElem? (i := 0) rfl) (by decide) ?_
  refine mi_s_mn rfl rfl rfl (Nat.le_of_ble_eq_true rfl) (by unfold mi_R; omega) (by unfold mi_R; omega) ?_
  rw [show min (max len 0) ((1200 : Nat) : Int) = len by omega]
  refine ty_s_pf S rfl rfl rfl (List.mem_of_getElem? (i := 3) rfl) (by decide) mi_fit_int (Or.inl rfl) ?_
  intro h1 S f
  replace fr := mi_Fm_tr fr f
  refine mi_wp_p (pc' := 18) (st' := [.ref 3]) rfl rfl rfl ?_
  refine mi_wp_p (pc' := 19) (st' := [.int (Int32.ofInt 0), .ref 3]) rfl rfl rfl ?_
  refine ty_s_pf S rfl rfl rfl (List.mem_of_getElem? (i := 4) rfl) (by decide) mi_fit_int (Or.inl rfl) ?_
  intro h2 S f
  replace fr := mi_Fm_tr fr f
  refine mi_wp_p (pc' := 23) (st' := [.int (Int32.ofInt 0)]) rfl rfl rfl ?_
  refine mi_wp_p (pc' := 24) (l' := [(2, .int (Int32.ofInt 0)), (0, .ref 3), (1, .int (Int32.ofInt len))]) (st' := []) rfl rfl rfl ?_
  refine mi_wp_p (pc' := 25) (st' := [.int (Int32.ofInt 1)]) rfl rfl rfl ?_
  refine mi_wp_p (pc' := 26) (l' := [(3, .int (Int32.ofInt 1)), (2, .int (Int32.ofInt 0)), (0, .ref 3), (1, .int (Int32.ofInt len))]) (st' := []) rfl rfl rfl ?_
  refine mi_wp_p (pc' := 27) (st' := [.int (Int32.ofInt 0)]) rfl rfl rfl ?_
  refine mi_wp_p (pc' := 29) (l' := [(4, .int (Int32.ofInt 0)), (3, .int (Int32.ofInt 1)), (2, .int (Int32.ofInt 0)), (0, .ref 3), (1, .int (Int32.ofInt len))]) (st' := []) rfl rfl rfl ?_
  refine mi_wp_lw (l := [(4, .int (Int32.ofInt 0)), (3, .int (Int32.ofInt 1)), (2, .int (Int32.ofInt 0)), (0, .ref 3), (1, .int (Int32.ofInt len))]) (mi_lw_of (show List.Nodup [4, 3, 2, 0, 1] by decide) ⟨rfl, rfl, rfl, rfl, rfl, trivial⟩) ?_
  exact to_read_l its (mi_uF (mi_uF σ 3 6 len) 3 7 0) 0 0 rfl (by omega) (by omega) (by omega) t lay _ S fr
