/-! ===== the stack of values; arrows ===== -/
def arr (ls : List tr) (e : tr) : tr := ls.foldr (fun a b => tn 6 a b tr_0) e
theorem arr_app (ls : List tr) (a e : tr) : arr (ls ++ [a]) e = arr ls (tn 6 a e tr_0) := by unfold arr; rw [List.foldr_append]; rfl
def FV (Sx : Int → Prop) (σ : mi_Sg) : Prop := ∀ i, 0 ≤ i → i < mi_sF σ 48 7 → Sx (mi_sA σ 51 i)
def FR (Sx : Int → Prop) (T : Int → tr) (σ : mi_Sg) (Sx' : Int → Prop) (T' : Int → tr) (σ' : mi_Sg) (k : Int) (e : tr) (room : Int) : Prop := FC Sx' T' σ' ∧ FV Sx' σ' ∧ FX σ σ' ∧ (∀ n, Sx n → Sx' n) ∧ (∀ n, 0 ≤ n → n < mi_sF σ 9 8 → T' n = T n) ∧ mi_sF σ' 48 7 = mi_sF σ 48 7 - k + 1 ∧ (∀ i, 0 ≤ i → i < mi_sF σ 48 7 - k → mi_sA σ' 51 i = mi_sA σ 51 i) ∧ T' (mi_sA σ' 51 (mi_sF σ 48 7 - k)) = sb (mkv σ') e ∧ mi_sF σ' 9 8 ≤ mi_sF σ 9 8 + room ∧ (∀ v, vin v e → mi_sA σ' 49 (v : Int) ≠ 0) ∧ ∀ n, Sx' n → Sx n ∨ mi_sF σ 9 8 ≤ n
/-- a node is put on top -/
theorem FR_put {Sx Sx' : Int → Prop} {T T' : Int → tr} {σ σ1 : mi_Sg} {k nd room : Int} {e : tr} (C : FC Sx' T' σ1) (X : FX σ σ1) (hS : ∀ n, Sx n → Sx' n) (hT : ∀ n, 0 ≤ n → n < mi_sF σ 9 8 → T' n = T n) (V : FV Sx σ) (hk : 0 ≤ mi_sF σ 48 7 - k) (hk0 : 0 ≤ k) (e7 : mi_sF σ1 48 7 = mi_sF σ 48 7 - k) (e51 : ∀ i, mi_sA σ1 51 i = mi_sA σ 51 i) (hn : Sx' nd) (he : T' nd = sb (mkv σ1) e) (hr : mi_sF σ1 9 8 ≤ mi_sF σ 9 8 + room) (hv : ∀ v, vin v e → mi_sA σ1 49 (v : Int) ≠ 0) (hN : ∀ n, Sx' n → Sx n ∨ mi_sF σ 9 8 ≤ n) : FR Sx T σ Sx' T' (mi_uF (mi_uA σ1 51 (mi_sF σ1 48 7) nd) 48 7 (mi_sF σ1 48 7 + 1)) k e room := by
  have F : sg_Af [51] [(48, 7)] σ1 (mi_uF (mi_uA σ1 51 (mi_sF σ1 48 7) nd) 48 7 (mi_sF σ1 48 7 + 1)) := sg_Af_F (sg_Af_A sg_Af_rf (by decide)) (by decide)
  have f51 : ∀ i, mi_sA (mi_uF (mi_uA σ1 51 (mi_sF σ1 48 7) nd) 48 7 (mi_sF σ1 48 7 + 1)) 51 i = if i = mi_sF σ1 48 7 then nd else mi_sA σ1 51 i := fun i => by
    rw [mi_AF, mi_AA]
    by_cases q : i = mi_sF σ1 48 7
    · rw [if_pos ⟨rfl, q⟩, if_pos q]
    · rw [if_neg (fun w => q w.2), if_neg q]
  have f7 : mi_sF (mi_uF (mi_uA σ1 51 (mi_sF σ1 48 7) nd) 48 7 (mi_sF σ1 48 7 + 1)) 48 7 = mi_sF σ1 48 7 + 1 := rfl
  have f49 : mi_sA (mi_uF (mi_uA σ1 51 (mi_sF σ1 48 7) nd) 48 7 (mi_sF σ1 48 7 + 1)) 49 = mi_sA σ1 49 := sg_Af_Ak F (by decide)
  have fm : mkv (mi_uF (mi_uA σ1 51 (mi_sF σ1 48 7) nd) 48 7 (mi_sF σ1 48 7 + 1)) = mkv σ1 := by
    funext v
    unfold mkv
    rw [f49]
  refine ⟨FC_v C F, fun i h0 h1 => ?_, FX_tr X (FX_v F), hS, hT, by rw [f7]; omega, fun i h0 h1 => ?_, ?_, hr, ?_, hN⟩
  · rw [f51]
    rw [f7] at h1
    split
    · exact hn
    · rw [e51]
      exact hS _ (V i h0 (by omega))
  · rw [f51, if_neg (by omega), e51]
  · rw [f51, if_pos e7.symm, fm]
    exact he
  · rw [f49]; exact hv
/-- what stood for a tree stands for it still -/
theorem FR_keep {T1 T2 : Int → tr} {σ1 σ2 : mi_Sg} {nd : Int} {a : tr} (h1 : T1 nd = sb (mkv σ1) a) (hv : ∀ v, vin v a → mi_sA σ1 49 (v : Int) ≠ 0) (h6 : ∀ v, vin v a → v < 6) (X : FX σ1 σ2) (hT : T2 nd = T1 nd) : T2 nd = sb (mkv σ2) a ∧ ∀ v, vin v a → mi_sA σ2 49 (v : Int) ≠ 0 := by
  have hk : ∀ v, vin v a → mi_sA σ2 49 (v : Int) = mi_sA σ1 49 (v : Int) := fun v q => by
    have := h6 v q
    exact X.2.2 v (by omega) (by omega) (hv v q)
  refine ⟨?_, fun v q => by rw [hk v q]; exact hv v q⟩
  rw [hT, h1]
  refine sb_ext a (fun v q => ?_)
  unfold mkv
  rw [hk v q]
/-- joinArrows, in trees -/
theorem ja_T {Sx : Int → Prop} {T : Int → tr} {σ : mi_Sg} {n : Nat} {ls : List tr} {e : tr} (C : FC Sx T σ) (V : FV Sx σ) (h00 : mi_sA σ 12 0 = 0) (hu0 : 0 < mi_sF σ 9 8) (hn : ls.length = n) (hvc : (n : Int) < mi_sF σ 48 7) (he : T (mi_sA σ 51 (mi_sF σ 48 7 - 1)) = sb (mkv σ) e) (hl : ∀ (i : Nat) a, ls[i]? = some a → T (mi_sA σ 51 (mi_sF σ 48 7 - 1 - n + i)) = sb (mkv σ) a) : ∀ j : Nat, j ≤ n → ∃ (Sx' : Int → Prop) (T' : Int → tr), FC Sx' T' (ja_S σ j).2 ∧ FX σ (ja_S σ j).2 ∧ (∀ q, Sx q → Sx' q) ∧ (∀ q, 0 ≤ q → q < mi_sF σ 9 8 → T' q = T q) ∧ Sx' (ja_S σ j).1 ∧ T' (ja_S σ j).1 = sb (mkv σ) (arr (ls.drop (n - j)) e) ∧ (∀ i, mi_sA (ja_S σ j).2 51 i = mi_sA σ 51 i) ∧ (∀ i, mi_sA (ja_S σ j).2 49 i = mi_sA σ 49 i) ∧ mi_sA (ja_S σ j).2 12 0 = 0 ∧ ∀ q, Sx' q → Sx q ∨ mi_sF σ 9 8 ≤ q
  | 0, _ => by
    have F : sg_Af [51] [(48, 7)] σ (ja_S σ 0).2 := sg_Af_F sg_Af_rf (by decide)
    refine ⟨Sx, T, FC_v C F, FX_v F, fun q h => h, fun q _ _ => rfl, V _ (by omega) (by omega), ?_, fun i => rfl, fun i => rfl, h00, fun q h => Or.inl h⟩
    rw [List.drop_eq_nil_of_le (by omega)]
    exact he
  | j + 1, hj => by
    obtain ⟨S1, T1, c1, c2, c3, c4, c5, c6, c7, c8, c9, c10⟩ := ja_T C V h00 hu0 hn hvc he hl j (by omega)
    obtain ⟨v1, v2⟩ := ja_vc σ j
    have F : sg_Af [51] [(48, 7)] (ja_S σ j).2 (mi_uF (ja_S σ j).2 48 7 (mi_sF (ja_S σ j).2 48 7 - 1)) := sg_Af_F sg_Af_rf (by decide)
    have hlt : n - (j + 1) < ls.length := by omega
    have hidx : mi_sA (ja_S σ j).2 51 (mi_sF (ja_S σ j).2 48 7 - 1) = mi_sA σ 51 (mi_sF σ 48 7 - 1 - n + ((n - (j + 1) : Nat) : Int)) := by
      rw [c7]
      congr 1
      omega
    have hSx : Sx (mi_sA σ 51 (mi_sF σ 48 7 - 1 - n + ((n - (j + 1) : Nat) : Int))) := V _ (by omega) (by omega)
    have hLt : T (mi_sA σ 51 (mi_sF σ 48 7 - 1 - n + ((n - (j + 1) : Nat) : Int))) = sb (mkv σ) (ls[n - (j + 1)]) := hl (n - (j + 1)) _ (List.getElem?_eq_getElem hlt)
    have hr := (C.1.2 _ hSx).1
    have hu2 : 0 < mi_sF (ja_S σ j).2 9 8 := by omega
    obtain ⟨d1, d2⟩ := FC_mk (g := 6) (a := mi_sA (ja_S σ j).2 51 (mi_sF (ja_S σ j).2 48 7 - 1)) (b := (ja_S σ j).1) (c := 0) (FC_v c1 F) c9 hu2 (Or.inr (Or.inl rfl)) (by rw [hidx]; exact c3 _ hSx) (by rw [if_neg (by omega)]; exact c5) rfl
    have hn1 := (c1.1.2 _ c5).1
    refine ⟨_, _, d1, FX_tr c2 (FX_tr (FX_v F) d2), fun q h => Or.inl (c3 q h), fun q h0 h1 => ?_, Or.inr rfl, ?_, fun i => ?_, fun i => ?_, ?_, fun q h => ?_⟩
    · show (if q = mi_sF (ja_S σ j).2 9 8 then _ else T1 q) = T q
      rw [if_neg (by omega)]
      exact c4 q h0 h1
    · show (if mi_sF (ja_S σ j).2 9 8 = mi_sF (ja_S σ j).2 9 8 then _ else _) = _
      rw [if_pos rfl, hidx, c4 _ (by omega) hr.2, hLt, c6, c1.1.1]
      have hd : ls.drop (n - (j + 1)) = ls[n - (j + 1)] :: ls.drop (n - j) := by
        rw [List.drop_eq_getElem_cons hlt]
        congr 2
        omega
      rw [hd]
      rfl
    · exact (ty_mk_F.2.1 51 i (by decide)).trans (c7 i)
    · exact (ty_mk_F.2.1 49 i (by decide)).trans (c8 i)
    · have X := (ty_mk_X (σ := mi_uF (ja_S σ j).2 48 7 (mi_sF (ja_S σ j).2 48 7 - 1)) (g := 6) (a := mi_sA (ja_S σ j).2 51 (mi_sF (ja_S σ j).2 48 7 - 1)) (b := (ja_S σ j).1) (c := 0) hu2).1
      exact X.2.2.trans c9
    · rcases h with h | h
      · exact c10 q h
      · have h' : q = mi_sF (ja_S σ j).2 9 8 := h
        exact Or.inr (by omega)
/-- joinArrows on what stands for e, with n types ahead of it -/
theorem FR_arr {Sx S1 : Int → Prop} {T T1 : Int → tr} {σ σ1 : mi_Sg} {ls : List tr} {e : tr} {r : Int} (hs : ls.length ≤ mi_sF σ 48 7) (V0 : FV Sx σ) (R : FR Sx T σ S1 T1 σ1 0 e r) (h00 : mi_sA σ1 12 0 = 0) (hu0 : 0 < mi_sF σ1 9 8) (hTu : ∀ n, Sx n → 0 ≤ n ∧ n < mi_sF σ 9 8) (h6e : ∀ v, vin v e → v < 6)
    (hl : ∀ (i : Nat) a, ls[i]? = some a → T (mi_sA σ 51 (mi_sF σ 48 7 - ls.length + i)) = sb (mkv σ) a ∧ (∀ v, vin v a → mi_sA σ 49 (v : Int) ≠ 0) ∧ ∀ v, vin v a → v < 6) : ∃ (Sx' : Int → Prop) (T' : Int → tr), FR Sx T σ Sx' T' (mi_uF (mi_uA (ja_S σ1 ls.length).2 51 (mi_sF (ja_S σ1 ls.length).2 48 7) (ja_S σ1 ls.length).1) 48 7 (mi_sF (ja_S σ1 ls.length).2 48 7 + 1)) ls.length (arr ls e) (r + ls.length) := by
  obtain ⟨r1, r2, r3, r4, r5, r6, r7, r8, r9, r10, r11⟩ := R
  rw [Int.sub_zero] at r6 r7 r8
  have hlk : ∀ (i : Nat) a, ls[i]? = some a → T1 (mi_sA σ1 51 (mi_sF σ1 48 7 - 1 - ls.length + i)) = sb (mkv σ1) a ∧ ∀ v, vin v a → mi_sA σ1 49 (v : Int) ≠ 0 := fun i a ha => by
    obtain ⟨q1, q2, q3⟩ := hl i a ha
    have hi : i < ls.length := by
      refine Decidable.byContradiction (fun q => ?_)
      rw [List.getElem?_eq_none (by omega)] at ha
      cases ha
    have hix : mi_sA σ1 51 (mi_sF σ1 48 7 - 1 - ls.length + i) = mi_sA σ 51 (mi_sF σ 48 7 - ls.length + i) := by
      rw [show mi_sF σ1 48 7 - 1 - ls.length + (i : Int) = mi_sF σ 48 7 - ls.length + i by omega]
      exact r7 _ (by omega) (by omega)
    rw [hix]
    have hb := hTu _ (V0 (mi_sF σ 48 7 - ls.length + i) (by omega) (by omega))
    exact FR_keep q1 q2 q3 r3 (r5 _ hb.1 hb.2)
  obtain ⟨S2, T2, c1, c2, c3, c4, c5, c6, c7, c8, c9, c10⟩ := ja_T (n := ls.length) (ls := ls) (e := e) r1 r2 h00 hu0 rfl (by omega) (by rw [show mi_sF σ1 48 7 - 1 = mi_sF σ 48 7 by omega]; exact r8) (fun i a ha => (hlk i a ha).1) ls.length (Nat.le_refl _)
  obtain ⟨v1, v2⟩ := ja_vc σ1 ls.length
  have hX := r3.2.1.1
  rw [Nat.sub_self, List.drop_zero] at c6
  have mk : mkv (ja_S σ1 ls.length).2 = mkv σ1 := by
    funext v
    unfold mkv
    rw [c8]
  -- the values below
  have R2 : FR S1 T1 σ1 S2 T2 (mi_uF (mi_uA (ja_S σ1 ls.length).2 51 (mi_sF (ja_S σ1 ls.length).2 48 7) (ja_S σ1 ls.length).1) 48 7 (mi_sF (ja_S σ1 ls.length).2 48 7 + 1)) (ls.length + 1) (arr ls e) ls.length := by
    refine FR_put c1 c2 c3 c4 r2 (by omega) (by omega) (by omega) c7 c5 (by rw [mk]; exact c6) (by omega) (fun v hv => ?_) c10
    rw [c8]
    clear c6 c1 c2 c3 c4 c5 c7 c9 v1 v2 hl
    have key : ∀ (l2 : List tr), (∀ a ∈ l2, ∀ v, vin v a → mi_sA σ1 49 (v : Int) ≠ 0) → ∀ v, vin v (arr l2 e) → mi_sA σ1 49 (v : Int) ≠ 0 := by
      intro l2
      induction l2 with
      | nil => intro _ v hv; exact r10 v hv
      | cons a l2 ih =>
        intro hall v hv
        rcases hv with hv | hv | hv | hv
        · cases hv
        · exact hall a List.mem_cons_self v hv
        · exact ih (fun b hb => hall b (List.mem_cons_of_mem _ hb)) v hv
        · cases hv
    refine key ls (fun a ha v hv => ?_) v hv
    obtain ⟨i, hi, hai⟩ := List.getElem_of_mem ha
    exact (hlk i a (by rw [List.getElem?_eq_getElem hi, hai])).2 v hv
  obtain ⟨w1, w2, w3, w4, w5, w6, w7, w8, w9, w10, w11⟩ := R2
  refine ⟨S2, T2, w1, w2, FX_tr r3 w3, fun q h => w4 q (r4 q h), fun q h0 h1 => (w5 q h0 (by omega)).trans (r5 q h0 h1), by omega, fun i h0 h1 => (w7 i h0 (by omega)).trans (r7 i h0 (by omega)), ?_, by omega, w10, fun q h => (w11 q h).elim (r11 q) (fun h => Or.inr (by omega))⟩
  rw [show mi_sF σ1 48 7 - ((ls.length : Int) + 1) = mi_sF σ 48 7 - ls.length by omega] at w8
  exact w8
