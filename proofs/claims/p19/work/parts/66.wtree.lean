/-! ===== the text of a tree, written ===== -/
def ix (vs : List Nat) (v : Nat) : Nat × List Nat := if v ∈ vs then (vs.idxOf v, vs) else (vs.length, vs ++ [v])
def wrp (c : Bool) (l : List Int) : List Int := if c = true then 40 :: (l ++ [41]) else l
/-- its bytes, and which marks were met, in their order -/
def tbt (vs : List Nat) : tr → List Int × List Nat
  | .var v => ([39, 97 + ((ix vs v).1 : Int)], (ix vs v).2)
  | .add (.num t) (.add a (.add b _)) =>
    if t = 5 then (wrp (brk 2 a) (tbt vs a).1 ++ ([32, 42, 32] ++ wrp (brk 2 b) (tbt (tbt vs a).2 b).1), (tbt (tbt vs a).2 b).2)
    else if t = 6 then (wrp (brk 1 a) (tbt vs a).1 ++ ([32, 45, 62, 32] ++ wrp (brk 0 b) (tbt (tbt vs a).2 b).1), (tbt (tbt vs a).2 b).2)
    else if t = 9 then ([108, 105, 115, 116] ++ ([32] ++ wrp (brk 3 a) (tbt vs a).1), (tbt vs a).2)
    else if t = 1 then ([105, 110, 116], vs) else ([98, 111, 111, 108], vs)
  | _ => ([], vs)
/-- how many turns -/
def tu : tr → Int
  | .var _ => 1
  | .add (.num t) (.add a (.add b _)) => if t = 5 then 1 + (tu a + 2 * bki 2 a) + 3 + (tu b + 2 * bki 2 b) else if t = 6 then 1 + (tu a + 2 * bki 1 a) + 4 + (tu b + 2 * bki 0 b) else if t = 9 then 1 + 1 + (tu a + 2 * bki 3 a) else 1
  | _ => 1
theorem tu_1 : ∀ e : tr, 1 ≤ tu e
  | .var v => by rw [tu]; omega
  | .add (.num t) (.add a (.add b c)) => by
    have ha := tu_1 a
    have hb := tu_1 b
    have b1 := bki_01 2 a
    have b2 := bki_01 2 b
    have b3 := bki_01 1 a
    have b4 := bki_01 0 b
    have b5 := bki_01 3 a
    rw [tu]
    split
    · omega
    · split
      · omega
      · split <;> omega
  | .num _ => by simp [tu]
  | .mul _ _ => by simp [tu]
  | .add (.var _) _ => by simp [tu]
  | .add (.add _ _) _ => by simp [tu]
  | .add (.mul _ _) _ => by simp [tu]
  | .add (.num _) (.num _) => by simp [tu]
  | .add (.num _) (.var _) => by simp [tu]
  | .add (.num _) (.mul _ _) => by simp [tu]
  | .add (.num _) (.add _ (.num _)) => by simp [tu]
  | .add (.num _) (.add _ (.var _)) => by simp [tu]
  | .add (.num _) (.add _ (.mul _ _)) => by simp [tu]
theorem tu_tn {t : Int} {a b c : tr} : tu (tn t a b c) = if t.toNat = 5 then 1 + (tu a + 2 * bki 2 a) + 3 + (tu b + 2 * bki 2 b) else if t.toNat = 6 then 1 + (tu a + 2 * bki 1 a) + 4 + (tu b + 2 * bki 0 b) else if t.toNat = 9 then 1 + 1 + (tu a + 2 * bki 3 a) else 1 := by unfold tn; rw [tu]
theorem tbt_tn {vs : List Nat} {t : Int} {a b c : tr} : tbt vs (tn t a b c) = if t.toNat = 5 then (wrp (brk 2 a) (tbt vs a).1 ++ ([32, 42, 32] ++ wrp (brk 2 b) (tbt (tbt vs a).2 b).1), (tbt (tbt vs a).2 b).2)
    else if t.toNat = 6 then (wrp (brk 1 a) (tbt vs a).1 ++ ([32, 45, 62, 32] ++ wrp (brk 0 b) (tbt (tbt vs a).2 b).1), (tbt (tbt vs a).2 b).2)
    else if t.toNat = 9 then ([108, 105, 115, 116] ++ ([32] ++ wrp (brk 3 a) (tbt vs a).1), (tbt vs a).2)
    else if t.toNat = 1 then ([105, 110, 116], vs) else ([98, 111, 111, 108], vs) := by unfold tn; rw [tbt]
/-- a row holds a list, its length in a field -/
def rwl (σ : mi_Sg) (k j : Nat) (l : List Int) : Prop := mi_sF σ 52 j = l.length ∧ ∀ (i : Nat) (x : Int), l[i]? = some x → mi_sA σ k i = x
def WN (Sx : Int → Prop) (σ : mi_Sg) (vs : List Nat) : Prop := mi_sF σ 52 6 = vs.length ∧ ∀ v : Int, Sx v → (mi_sA σ 10 v = 3 ∨ mi_sA σ 10 v = 4) → mi_sA σ 14 v = if v.toNat ∈ vs then (vs.idxOf v.toNat : Int) + 1 else 0
/-- what is pending, what is written, which marks were met -/
def WS (Sx : Int → Prop) (σ : mi_Sg) (st l : List Int) (vs : List Nat) : Prop := rwl σ 54 4 st ∧ rwl σ 53 5 l ∧ WN Sx σ vs
def FW (σ σ' : mi_Sg) : Prop := sg_Af [14, 53, 54] [(52, 4), (52, 5), (52, 6)] σ σ'
theorem rwl_push {σ σ' : mi_Sg} {k j : Nat} {l : List Int} {x : Int} (h : rwl σ k j l) (e1 : mi_sF σ' 52 j = mi_sF σ 52 j + 1) (e2 : ∀ i, mi_sA σ' k i = if i = mi_sF σ 52 j then x else mi_sA σ k i) : rwl σ' k j (l ++ [x]) := by
  refine ⟨by rw [e1, h.1, List.length_append, List.length_singleton]; omega, fun i y hy => ?_⟩
  rw [e2, h.1]
  by_cases q : i < l.length
  · rw [List.getElem?_append_left q] at hy
    rw [if_neg (by omega)]
    exact h.2 i y hy
  · rw [List.getElem?_append_right (by omega)] at hy
    have h0 : i - l.length = 0 := by
      refine Decidable.byContradiction (fun e => ?_)
      rw [List.getElem?_eq_none (by rw [List.length_singleton]; omega)] at hy
      cases hy
    rw [h0] at hy
    rw [if_pos (by omega)]
    exact Option.some.inj hy
theorem rwl_keep {σ σ' : mi_Sg} {k j : Nat} {l : List Int} (h : rwl σ k j l) (e1 : mi_sF σ' 52 j = mi_sF σ 52 j) (e2 : ∀ i, mi_sA σ' k i = mi_sA σ k i) : rwl σ' k j l := ⟨e1.trans h.1, fun i y hy => (e2 i).trans (h.2 i y hy)⟩
theorem rwl_pop {σ σ' : mi_Sg} {k j : Nat} {l : List Int} {x : Int} (h : rwl σ k j (l ++ [x])) (e1 : mi_sF σ' 52 j = mi_sF σ 52 j - 1) (e2 : ∀ i, mi_sA σ' k i = mi_sA σ k i) : rwl σ' k j l ∧ mi_sA σ k (mi_sF σ 52 j - 1) = x ∧ mi_sF σ 52 j = l.length + 1 := by
  have hl := h.1
  rw [List.length_append, List.length_singleton] at hl
  refine ⟨⟨by rw [e1, hl]; omega, fun i y hy => ?_⟩, ?_, by rw [hl]; omega⟩
  · have hi : i < l.length := by
      refine Decidable.byContradiction (fun e => ?_)
      rw [List.getElem?_eq_none (by omega)] at hy
      cases hy
    exact (e2 i).trans (h.2 i y (by rw [List.getElem?_append_left hi]; exact hy))
  · have := h.2 l.length x (by rw [List.getElem?_append_right (Nat.le_refl _), Nat.sub_self]; rfl)
    rw [show mi_sF σ 52 j - 1 = (l.length : Int) by rw [hl]; omega]
    exact this
section WS
variable {Sx : Int → Prop} {σ : mi_Sg} {st l : List Int} {vs : List Nat} {x b : Int}
theorem WS_wlt (h : WS Sx σ st l vs) : WS Sx (wlt σ x) (st ++ [x]) l vs ∧ FW σ (wlt σ x) := by
  refine ⟨⟨rwl_push h.1 rfl (fun i => ?_), rwl_keep h.2.1 rfl (fun i => ?_), h.2.2⟩, sg_Af_F (sg_Af_A sg_Af_rf (by decide)) (by decide)⟩
  · unfold wlt
    rw [mi_AF, mi_AA]
    by_cases q : i = mi_sF σ 52 4
    · rw [if_pos ⟨rfl, q⟩, if_pos q]
    · rw [if_neg (fun w => q w.2), if_neg q]
  · unfold wlt
    rw [mi_AF, mi_AA, if_neg (fun w => absurd w.1 (by decide))]
theorem WS_wpb (h : WS Sx σ st l vs) : WS Sx (wpb σ b) st (l ++ [b]) vs ∧ FW σ (wpb σ b) := by
  refine ⟨⟨rwl_keep h.1 rfl (fun i => ?_), rwl_push h.2.1 rfl (fun i => ?_), h.2.2⟩, sg_Af_F (sg_Af_A sg_Af_rf (by decide)) (by decide)⟩
  · unfold wpb
    rw [mi_AF, mi_AA, if_neg (fun w => absurd w.1 (by decide))]
  · unfold wpb
    rw [mi_AF, mi_AA]
    by_cases q : i = mi_sF σ 52 5
    · rw [if_pos ⟨rfl, q⟩, if_pos q]
    · rw [if_neg (fun w => q w.2), if_neg q]
theorem WS_wpp (h : WS Sx σ (st ++ [x]) l vs) : (WS Sx (wpp σ) st l vs ∧ FW σ (wpp σ)) ∧ mi_sA σ 54 (mi_sF σ 52 4 - 1) = x ∧ mi_sF σ 52 4 = st.length + 1 := by
  obtain ⟨h1, h2, h3⟩ := rwl_pop (σ' := wpp σ) h.1 rfl (fun i => rfl)
  exact ⟨⟨⟨h1, h.2.1, h.2.2⟩, sg_Af_F sg_Af_rf (by decide)⟩, h2, h3⟩
theorem FW_tr {a b c : mi_Sg} (p : FW a b) (q : FW b c) : FW a c := sg_Af_tr p q
variable {X : mi_X} {d : Nat} {h0 : mi_H} {Q : mi_Z → Prop} {rt n : Int}
/-- bytes that are pending are written -/
theorem PH_bytes : ∀ (bs : List Int) (n : Int) (σ : mi_Sg) (l : List Int), WS Sx σ (st ++ (bs.reverse.map (fun b => -b))) l vs → (∀ b ∈ bs, 0 < b ∧ b < 128) → 0 ≤ n → n + bs.length ≤ 1024 → st.length + bs.length ≤ 1024 → l.length + bs.length ≤ 400 → (∀ σ', FW σ σ' → WS Sx σ' st (l ++ bs) vs → PH X d h0 Q rt (n + bs.length) σ') → PH X d h0 Q rt n σ
  | [], n, σ, l, h, _, _, _, _, _, K => by
    have := K σ sg_Af_rf (by simpa using h)
    rw [List.length_nil, show n + ((0 : Nat) : Int) = n by omega] at this
    exact this
  | b :: bs, n, σ, l, h, hb, n0, n1, s1, l1, K => by
    rw [List.reverse_cons, List.map_append, ← List.append_assoc] at h
    obtain ⟨⟨h1, f1⟩, h2, h3⟩ := WS_wpp (x := -b) h
    obtain ⟨h4, f2⟩ := WS_wpb (b := b) h1
    rw [List.length_cons] at n1 s1 l1
    have hl : mi_sF σ 52 5 = l.length := h.2.1.1
    rw [List.length_append, List.length_map, List.length_reverse] at h3
    have hbb := hb b List.mem_cons_self
    refine ph_byte n0 (by omega) (by omega) (by omega) h2 hbb.1 hbb.2 (by omega) (by omega) (PH_bytes bs (n + 1) _ (l ++ [b]) h4 (fun c hc => hb c (List.mem_cons_of_mem _ hc)) (by omega) (by omega) (by omega) (by rw [List.length_append, List.length_singleton]; omega) (fun σ' F w => ?_))
    rw [List.append_assoc] at w
    have := K σ' (FW_tr (FW_tr f1 f2) F) w
    rw [List.length_cons] at this
    rw [show n + 1 + (bs.length : Int) = n + ((bs.length + 1 : Nat) : Int) by omega]
    exact this
end WS
