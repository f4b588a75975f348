/-! ===== the steps of a type, taken one after another ===== -/
theorem sg_26_sp {σ : mi_Sg} {s : Int} {l l' : List (Int × Int × Int)} (h : sg_26 σ s (l ++ l')) : sg_26 σ s l ∧ sg_26 σ (s + l.length) l' := by
  refine ⟨fun i q hq => h i q ?_, fun i q hq => ?_⟩
  · have hi : i < l.length := by
      refine Decidable.byContradiction (fun e => ?_)
      rw [List.getElem?_eq_none (by omega)] at hq
      cases hq
    rw [List.getElem?_append_left hi]
    exact hq
  · have := h (l.length + i) q (by rw [List.getElem?_append_right (by omega), show l.length + i - l.length = i by omega]; exact hq)
    rw [show s + (l.length : Int) + (i : Int) = s + ((l.length + i : Nat) : Int) by omega]
    exact this
def ST (σ : mi_Sg) (s : Int) (l : List (Int × Int × Int)) : Prop := (0 ≤ s ∧ s + l.length ≤ mi_sF σ 26 7 ∧ mi_sF σ 26 7 ≤ 1024) ∧ sg_26 σ s l
theorem ST_sp {σ : mi_Sg} {s : Int} {l l' : List (Int × Int × Int)} (h : ST σ s (l ++ l')) : ST σ s l ∧ ST σ (s + l.length) l' := by
  obtain ⟨⟨h1, h2, h3⟩, h4⟩ := h
  rw [List.length_append] at h2
  have := sg_26_sp h4
  exact ⟨⟨⟨h1, by omega, h3⟩, this.1⟩, ⟨⟨by omega, by omega, h3⟩, this.2⟩⟩
theorem ST_c {σ : mi_Sg} {s k a b : Int} {l : List (Int × Int × Int)} (h : ST σ s ((k, a, b) :: l)) : (0 ≤ s ∧ s < mi_sF σ 26 7 ∧ mi_sF σ 26 7 ≤ 1024) ∧ (mi_sA σ 27 s = k ∧ mi_sA σ 28 s = a ∧ mi_sA σ 29 s = b) ∧ ST σ (s + 1) l := by
  obtain ⟨⟨h1, h2, h3⟩, h4⟩ := h
  rw [List.length_cons] at h2
  have h5 := h4 0 (k, a, b) rfl
  have h6 := (sg_26_sp (l := [(k, a, b)]) (l' := l) h4).2
  rw [show s + ((0 : Nat) : Int) = s by omega] at h5
  exact ⟨⟨h1, by omega, h3⟩, h5, ⟨by omega, by omega, h3⟩, h6⟩
theorem ST_X {σ σ' : mi_Sg} {s : Int} {l : List (Int × Int × Int)} (X : FX σ σ') (h : ST σ s l) : ST σ' s l := by
  unfold ST sg_26 at *
  rw [X.1.2.2 26 7 (by decide), sg_Af_Ak X.1 (k := 27) (by decide), sg_Af_Ak X.1 (k := 28) (by decide), sg_Af_Ak X.1 (k := 29) (by decide)]
  exact h
def FB (Sx : Int → Prop) (T : Int → tr) (σ : mi_Sg) : Prop := FC Sx T σ ∧ FV Sx σ ∧ ((Sx 1 ∧ T 1 = tn 1 tr_0 tr_0 tr_0) ∧ (Sx 2 ∧ T 2 = tn 2 tr_0 tr_0 tr_0)) ∧ mi_sA σ 12 0 = 0 ∧ 2 < mi_sF σ 9 8
theorem FB_R {Sx Sx' : Int → Prop} {T T' : Int → tr} {σ σ' : mi_Sg} {k r : Int} {e : tr} (B : FB Sx T σ) (R : FR Sx T σ Sx' T' σ' k e r) : FB Sx' T' σ' := by
  obtain ⟨-, -, ⟨⟨b1, b2⟩, b3, b4⟩, b5, b6⟩ := B
  obtain ⟨r1, r2, r3, r4, r5, r6, r7, r8, r9, r10, r11⟩ := R
  have := r3.2.1.1
  exact ⟨r1, r2, ⟨⟨r4 _ b1, (r5 1 (by omega) (by omega)).trans b2⟩, r4 _ b3, (r5 2 (by omega) (by omega)).trans b4⟩, r3.2.1.2.2.trans b5, by omega⟩
theorem FR_tr {Sx S1 S2 : Int → Prop} {T T1 T2 : Int → tr} {σ σ1 σ2 : mi_Sg} {k r1 r2 r : Int} {a e : tr} (hk : 0 ≤ k) (R1 : FR Sx T σ S1 T1 σ1 0 a r1) (R2 : FR S1 T1 σ1 S2 T2 σ2 (k + 1) e r2) (hr : r1 + r2 = r) : FR Sx T σ S2 T2 σ2 k e r := by
  obtain ⟨a1, a2, a3, a4, a5, a6, a7, a8, a9, a10, a11⟩ := R1
  obtain ⟨b1, b2, b3, b4, b5, b6, b7, b8, b9, b10, b11⟩ := R2
  have := a3.2.1.1
  refine ⟨b1, b2, FX_tr a3 b3, fun n h => b4 n (a4 n h), fun n h0 h1 => (b5 n h0 (by omega)).trans (a5 n h0 h1), by omega, fun i h0 h1 => (b7 i h0 (by omega)).trans (a7 i h0 (by omega)), ?_, by omega, b10, fun q h => (b11 q h).elim (a11 q) (fun h => Or.inr (by omega))⟩
  rw [show mi_sF σ1 48 7 - (k + 1) = mi_sF σ 48 7 - k by omega] at b8
  exact b8
def LTs (σ : mi_Sg) (T : Int → tr) (ls : List tr) : Prop := ∀ (i : Nat) a, ls[i]? = some a → T (mi_sA σ 51 (mi_sF σ 48 7 - ls.length + i)) = sb (mkv σ) a ∧ (∀ v, vin v a → mi_sA σ 49 (v : Int) ≠ 0) ∧ ∀ v, vin v a → v < 6
/-- one more type at the left -/
theorem LTs_R {Sx S1 : Int → Prop} {T T1 : Int → tr} {σ σ1 : mi_Sg} {r : Int} {ls : List tr} {a : tr} (B : FB Sx T σ) (hs : (ls.length : Int) ≤ mi_sF σ 48 7) (h6 : ∀ v, vin v a → v < 6) (l : LTs σ T ls) (R : FR Sx T σ S1 T1 σ1 0 a r) : LTs σ1 T1 (ls ++ [a]) := by
  obtain ⟨r1, r2, r3, r4, r5, r6, r7, r8, r9, r10, r11⟩ := R
  rw [Int.sub_zero] at r6 r7 r8
  intro i b hb
  rw [List.length_append, List.length_singleton]
  by_cases hi : i < ls.length
  · rw [List.getElem?_append_left hi] at hb
    obtain ⟨q1, q2, q3⟩ := l i b hb
    have hx : mi_sA σ1 51 (mi_sF σ1 48 7 - ((ls.length + 1 : Nat) : Int) + i) = mi_sA σ 51 (mi_sF σ 48 7 - ls.length + i) := by
      rw [show mi_sF σ1 48 7 - ((ls.length + 1 : Nat) : Int) + (i : Int) = mi_sF σ 48 7 - ls.length + i by omega]
      exact r7 _ (by omega) (by omega)
    have hb := (B.1.1.2 _ (B.2.1 (mi_sF σ 48 7 - ls.length + i) (by omega) (by omega))).1
    have := FR_keep q1 q2 q3 r3 (r5 _ (by omega) hb.2)
    rw [hx]
    exact ⟨this.1, this.2, q3⟩
  · rw [List.getElem?_append_right (by omega)] at hb
    have h0 : i - ls.length = 0 := by
      refine Decidable.byContradiction (fun e => ?_)
      rw [List.getElem?_eq_none (by rw [List.length_singleton]; omega)] at hb
      cases hb
    rw [h0] at hb
    obtain rfl : a = b := Option.some.inj hb
    rw [show mi_sF σ1 48 7 - ((ls.length + 1 : Nat) : Int) + (i : Int) = mi_sF σ 48 7 by omega]
    exact ⟨r8, r10, h6⟩
section FE
variable {X : mi_X} {d : Nat} {h0 : mi_H} {Q : mi_Z → Prop} {Sx : Int → Prop} {T : Int → tr} {σ : mi_Sg} {s0 : Int}
/-- one step -/
theorem RS {P : mi_Sg → Prop} {k a b : Int} {l : List (Int × Int × Int)} (B : FB Sx T σ) (S : ST σ s0 ((k, a, b) :: l)) (hk : 0 ≤ k ∧ k < 10) (H : ty_Cv X (d + 11) mi_M37 [(0, .ref 48), (1, .int (Int32.ofInt k)), (2, .int (Int32.ofInt a)), (3, .int (Int32.ofInt b))] σ P) (KX : ∀ σ', P σ' → RH X d h0 Q (s0 + 1) σ') : RH X d h0 Q s0 σ := by
  obtain ⟨⟨q1, q2, q3⟩, ⟨q4, q5, q6⟩, -⟩ := ST_c S
  exact rh_form q1 q2 q3 B.1.2.2.1.2.1 q4 q5 q6 hk H KX
theorem FE_9 {S1 : Int → Prop} {T1 : Int → tr} {σ1 : mi_Sg} {e : tr} {ls : List tr} {s1 : Int} {l : List (Int × Int × Int)} (B : FB Sx T σ) (hs : (ls.length : Int) ≤ mi_sF σ 48 7) (hv : mi_sF σ 48 7 + 1 ≤ 300) (hu : mi_sF σ 9 8 + pz e + ls.length ≤ 512) (R : FR Sx T σ S1 T1 σ1 0 e (pz e)) (h6 : ∀ v, vin v e → v < 6) (L : LTs σ T ls) (S : ST σ1 s1 ((9, (ls.length : Int), 0) :: l)) (K : ∀ Sx' T' σ', FR Sx T σ Sx' T' σ' ls.length (arr ls e) (pz e + ls.length) → RH X d h0 Q (s1 + 1) σ') : RH X d h0 Q s1 σ1 := by
  have B1 := FB_R B R
  have e7 : mi_sF σ1 48 7 = mi_sF σ 48 7 - 0 + 1 := R.2.2.2.2.2.1
  have e8 : mi_sF σ1 9 8 ≤ mi_sF σ 9 8 + pz e := R.2.2.2.2.2.2.2.2.1
  obtain ⟨S2, T2, R2⟩ := FR_arr hs B.2.1 R B1.2.2.2.1 (by have := B1.2.2.2.2; omega) (fun n hn => by have := (B.1.1.2 n hn).1; omega) h6 L
  exact RS B1 S (by omega) (ft9 (d := d + 10) (fo_joinArrows (d := d + 7) (by omega) (by omega) (by omega))) (fun σ' q => by rw [q]; exact K S2 T2 _ R2)
theorem FE_w {e : tr} {w : Nat} {ls : List tr} {core : List (Int × Int × Int)} (hw : w ≠ 0 → ls = []) (B : FB Sx T σ) (hs : (ls.length : Int) ≤ mi_sF σ 48 7) (hv : mi_sF σ 48 7 + 1 ≤ 300) (hu : mi_sF σ 9 8 + pz e + ls.length ≤ 512) (h6 : ∀ v, vin v e → v < 6) (L : LTs σ T ls) (S : ST σ s0 (core ++ (if w = 0 then [(9, (ls.length : Int), 0)] else []))) (C : (∀ S1 T1 σ1, FR Sx T σ S1 T1 σ1 0 e (pz e) → RH X d h0 Q (s0 + core.length) σ1) → RH X d h0 Q s0 σ) (K : ∀ Sx' T' σ', FR Sx T σ Sx' T' σ' ls.length (arr ls e) (pz e + ls.length) → RH X d h0 Q (s0 + (core ++ (if w = 0 then [(9, (ls.length : Int), 0)] else [])).length) σ') : RH X d h0 Q s0 σ := by
  by_cases e0 : w = 0
  · rw [if_pos e0] at S K
    refine C (fun S1 T1 σ1 R => FE_9 B hs hv hu R h6 L (ST_X R.2.2.1 (ST_sp S).2) (fun S2 T2 σ2 R2 => ?_))
    have := K S2 T2 σ2 R2
    rw [List.length_append, List.length_singleton] at this
    rw [Int.add_assoc]
    exact this
  · obtain rfl := hw e0
    rw [if_neg e0, List.append_nil] at K
    refine C (fun S1 T1 σ1 R => K S1 T1 σ1 ?_)
    rw [show pz e + (([] : List tr).length : Int) = pz e by simp]
    exact R
end FE
def kyp (E : Int → Int64) (w : Nat) (p : Int) : tr → Prop
  | .var v => E p = ltk v
  | .add (.num t) (.add a (.add b _)) =>
    if t = 5 then (if 1 < w then kyp E 2 (p + 1) a ∧ kyp E 2 (p + 1 + (tkf 2 a).length + 1) b else kyp E 2 p a ∧ kyp E 2 (p + (tkf 2 a).length + 1) b)
    else if t = 6 then (if 0 < w then kyp E 1 (p + 1) a ∧ kyp E 0 (p + 1 + (tkf 1 a).length + 1) b else kyp E 1 p a ∧ kyp E 0 (p + (tkf 1 a).length + 1) b)
    else if t = 9 then (if w = 3 then E (p + 1) = 1818850164 ∧ kyp E 3 (p + 1 + 1) a else E p = 1818850164 ∧ kyp E 3 (p + 1) a)
    else if t = 1 then E p = 6909556 else E p = 1651470188
  | _ => True
section KY
variable {a b : tr} {w n v : Nat} {p : Int} {E : Int → Int64}
theorem kyp_v : kyp E w p (.var v) = (E p = ltk v) := by rw [kyp]
theorem kyp_1 : kyp E w p (tn 1 tr_0 tr_0 tr_0) = (E p = 6909556) := by unfold tn; rw [kyp]; rfl
theorem kyp_2 : kyp E w p (tn 2 tr_0 tr_0 tr_0) = (E p = 1651470188) := by unfold tn; rw [kyp]; rfl
theorem kyp_5 : kyp E w p (tn 5 a b tr_0) = if 1 < w then kyp E 2 (p + 1) a ∧ kyp E 2 (p + 1 + (tkf 2 a).length + 1) b else kyp E 2 p a ∧ kyp E 2 (p + (tkf 2 a).length + 1) b := by unfold tn; rw [kyp]; exact if_pos rfl
theorem kyp_6 : kyp E w p (tn 6 a b tr_0) = if 0 < w then kyp E 1 (p + 1) a ∧ kyp E 0 (p + 1 + (tkf 1 a).length + 1) b else kyp E 1 p a ∧ kyp E 0 (p + (tkf 1 a).length + 1) b := by unfold tn; rw [kyp]; rfl
theorem kyp_9 : kyp E w p (tn 9 a tr_0 tr_0) = if w = 3 then E (p + 1) = 1818850164 ∧ kyp E 3 (p + 1 + 1) a else E p = 1818850164 ∧ kyp E 3 (p + 1) a := by unfold tn; rw [kyp]; rfl
end KY
