/-! ===== the law's lay (printed by wip/gen/p_law5.py) ===== -/
/-- the word of the first m bytes of group q -/
def wd (c : Nat → Int) (q : Nat) : Nat → Int
  | 0 => 0
  | m + 1 => wd c q m * 256 + c (4 * q + m)
theorem wd_b {c : Nat → Int} (hc : ∀ j, 0 ≤ c j ∧ c j < 128) (q : Nat) : (0 ≤ wd c q 0 ∧ wd c q 0 < 8388608) ∧ (0 ≤ wd c q 1 ∧ wd c q 1 < 128) ∧ (0 ≤ wd c q 2 ∧ wd c q 2 < 32768) ∧ (0 ≤ wd c q 3 ∧ wd c q 3 < 8388608) := by
  have h0 := hc (4 * q + 0)
  have h1 := hc (4 * q + 1)
  have h2 := hc (4 * q + 2)
  have e1 : wd c q 1 = 0 * 256 + c (4 * q + 0) := rfl
  have e2 : wd c q 2 = wd c q 1 * 256 + c (4 * q + 1) := rfl
  have e3 : wd c q 3 = wd c q 2 * 256 + c (4 * q + 2) := rfl
  have e0 : wd c q 0 = 0 := rfl
  omega
theorem wd_4 {c : Nat → Int} (q : Nat) : wd c q 4 = ((c (4 * q) * 256 + c (4 * q + 1)) * 256 + c (4 * q + 2)) * 256 + c (4 * q + 3) := by
  show ((((0 * 256 + c (4 * q + 0)) * 256 + c (4 * q + 1)) * 256 + c (4 * q + 2)) * 256 + c (4 * q + 3)) = _
  rw [Nat.add_zero]
  omega
theorem wd_r {c : Nat → Int} (hc : ∀ j, 0 ≤ c j ∧ c j < 128) (q m : Nat) (hm : m ≤ 3) : 0 ≤ wd c q m ∧ wd c q m < 8388608 := by
  obtain ⟨a0, a1, a2, a3⟩ := wd_b hc q
  obtain rfl | rfl | rfl | rfl : m = 0 ∨ m = 1 ∨ m = 2 ∨ m = 3 := by omega
  · exact a0
  · omega
  · omega
  · exact a3
def tapl (σ : mi_Sg) : List Int → mi_Sg
  | [] => σ
  | b :: l => tapl (tap σ b) l
theorem tap_10 {σ : mi_Sg} {b : Int} : mi_sF (tap σ b) 0 10 = mi_sF σ 0 10 + 1 := by
  unfold tap
  rw [mi_FF, if_pos ⟨rfl, rfl⟩]
theorem tap_sg {σ : mi_Sg} {b : Int} : sg_Af [1] [(0, 10)] σ (tap σ b) := sg_Af_F (sg_Af_A sg_Af_rf (List.mem_singleton.mpr rfl)) (List.mem_singleton.mpr rfl)
theorem tap_1 {σ : mi_Sg} {b i : Int} : mi_sA (tap σ b) 1 i = if i = mi_sF σ 0 10 then b else mi_sA σ 1 i := by
  unfold tap
  rw [mi_AF, mi_AA]
  by_cases e : i = mi_sF σ 0 10
  · rw [if_pos ⟨rfl, e⟩, if_pos e]
  · rw [if_neg (fun q => e q.2), if_neg e]
theorem tapl_s : ∀ (l : List Int) (σ : mi_Sg), mi_sF (tapl σ l) 0 10 = mi_sF σ 0 10 + l.length ∧ sg_Af [1] [(0, 10)] σ (tapl σ l) ∧ (∀ i, i < mi_sF σ 0 10 → mi_sA (tapl σ l) 1 i = mi_sA σ 1 i) ∧ ∀ (j : Nat) (b : Int), l[j]? = some b → mi_sA (tapl σ l) 1 (mi_sF σ 0 10 + j) = b
  | [], σ => ⟨by show mi_sF σ 0 10 = mi_sF σ 0 10 + ((0 : Nat) : Int); omega, sg_Af_rf, fun _ _ => rfl, fun j b h => by cases h⟩
  | x :: l, σ => by
    obtain ⟨h1, h2, h3, h4⟩ := tapl_s l (tap σ x)
    rw [tap_10] at h1 h3 h4
    refine ⟨?_, sg_Af_tr tap_sg h2, fun i hi => ?_, fun j b hb => ?_⟩
    · show mi_sF (tapl (tap σ x) l) 0 10 = _
      rw [h1, List.length_cons]
      omega
    · show mi_sA (tapl (tap σ x) l) 1 i = _
      rw [h3 i (by omega), tap_1, if_neg (by omega)]
    · show mi_sA (tapl (tap σ x) l) 1 _ = _
      cases j with
      | zero =>
        cases hb
        rw [h3 _ (by omega), tap_1, if_pos (by omega)]
      | succ j =>
        rw [List.getElem?_cons_succ] at hb
        have := h4 j b hb
        rw [show mi_sF σ 0 10 + ((j + 1 : Nat) : Int) = mi_sF σ 0 10 + 1 + (j : Int) by omega]
        exact this
theorem tap4 {X : mi_X} {d : Nat} {c : Nat → Int} (hc : ∀ j, 0 ≤ c j ∧ c j < 128) (q : Nat) : ∀ σ', 0 ≤ mi_sF σ' 0 10 → mi_sF σ' 0 10 + 4 ≤ 1200 → ty_Cv X d mi_M2 [(0, .ref 0), (1, .int (Int32.ofInt (wd c q 4)))] σ' (fun σ2 => σ2 = tapl σ' [c (4 * q), c (4 * q + 1), c (4 * q + 2), c (4 * q + 3)]) :=
  fun σ' s0 s1 => tl_append (hc _).1 (hc _).2 (hc _).1 (hc _).2 (hc _).1 (hc _).2 (hc _).1 (hc _).2 (wd_4 q) s0 s1
/-- the twenty bytes of a turn -/
def c20 (c : Nat → Int) : List Int := [c 0, c 1, c 2, c 3, c 4, c 5, c 6, c 7, c 8, c 9, c 10, c 11, c 12, c 13, c 14, c 15, c 16, c 17, c 18, c 19]
theorem c20_j {c : Nat → Int} : ∀ j : Nat, j < 20 → (c20 c)[j]? = some (c j) := fun j hj => by
  obtain rfl | rfl | rfl | rfl | rfl | rfl | rfl | rfl | rfl | rfl | rfl | rfl | rfl | rfl | rfl | rfl | rfl | rfl | rfl | rfl : j = 0 ∨ j = 1 ∨ j = 2 ∨ j = 3 ∨ j = 4 ∨ j = 5 ∨ j = 6 ∨ j = 7 ∨ j = 8 ∨ j = 9 ∨ j = 10 ∨ j = 11 ∨ j = 12 ∨ j = 13 ∨ j = 14 ∨ j = 15 ∨ j = 16 ∨ j = 17 ∨ j = 18 ∨ j = 19 := by omega
  all_goals rfl
theorem feed20 {X : mi_X} {d : Nat} {σ : mi_Sg} {c : Nat → Int} (hc : ∀ j, 0 ≤ c j ∧ c j < 128) (s0 : 0 ≤ mi_sF σ 0 10) (s1 : mi_sF σ 0 10 + 20 ≤ 1200) : ty_Ci X (d + 1) mi_M8 [(0, .ref 0), (1, .int (Int32.ofInt (wd c 0 4))), (2, .int (Int32.ofInt (wd c 1 4))), (3, .int (Int32.ofInt (wd c 2 4))), (4, .int (Int32.ofInt (wd c 3 4))), (5, .int (Int32.ofInt (wd c 4 4)))] σ (fun x σ' => σ' = tapl σ (c20 c)) := by
  have g : ∀ (l : List Int), l.length = 4 → ∀ σ', mi_sF (tapl σ' l) 0 10 = mi_sF σ' 0 10 + 4 := fun l hl σ' => by
    rw [(tapl_s l σ').1, hl]
    rfl
  have := tl_feed (X := X) (d := d) (σ := σ) (tap4 hc 0) (g _ rfl) (tap4 hc 1) (g _ rfl) (tap4 hc 2) (g _ rfl) (tap4 hc 3) (g _ rfl) (tap4 hc 4) (g _ rfl) s0 s1
  intro h S
  exact mi_wp_q (this h S) (fun z ⟨v, h', σ', e, g1, g2, x, e2, _, g3⟩ => ⟨v, h', σ', e, g1, g2, x, e2, g3⟩)
section LW
variable {X : mi_X} {d t n : Nat} {h : mi_H}
theorem lay_turn {w : Nat} {gt gw : Nat → Int} {i k z wv b : Int} {c s : Nat} {Q : mi_Z → Prop} (A_t : LA h t n gt) (A_w : LA h w 5 gw) (ne : t ≠ w) (hn : n ≤ 100000) (i0 : 0 ≤ i ∧ i < 20) (k0 : 0 ≤ k ∧ k < 1200) (z0 : 0 ≤ z ∧ z < n ∧ z ≤ 1200) (hwv : gw (i / 4).toNat = wv) (hw : 0 ≤ wv ∧ wv < 8388608) (hb : 0 ≤ b ∧ b < 128) (hb1 : k + i < z → gt (1 + k + i).toNat = b) (hb2 : ¬ (k + i < z) → b = 32)
    (kk : ∀ h', LA h' w 5 (va_up gw (i / 4).toNat (wv * 256 + b)) → LF h h' [w] → mi_wp X d mi_M172 27 [(6, .int (Int32.ofInt (i + 1))), (5, .ref w), (4, .int (Int32.ofInt k)), (3, .int (Int32.ofInt z)), (2, .int (Int32.ofInt 0)), (0, .ref 0), (1, .ref t)] [] h' c s Q) : mi_wp X d mi_M172 27 [(6, .int (Int32.ofInt i)), (5, .ref w), (4, .int (Int32.ofInt k)), (3, .int (Int32.ofInt z)), (2, .int (Int32.ofInt 0)), (0, .ref 0), (1, .ref t)] [] h c s Q := by
  have fr := LF_rf h [w]
  refine mi_wp_p (pc' := 29) (st' := [.int (Int32.ofInt i)]) rfl rfl rfl ?_
  refine mi_s_k (pc' := 31) (e := 20) rfl rfl rfl (by decide +kernel) ?_
  refine mi_s_if2 (t := 81) rfl rfl rfl (by unfold mi_R; omega) (by unfold mi_R; omega) (fun hc_ => absurd (show 20 ≤ i from hc_) (by omega)) (fun _ => ?_)
  refine mi_wp_p (pc' := 36) (st' := [.ref w]) rfl rfl rfl ?_
  refine mi_wp_p (pc' := 38) (st' := [.int (Int32.ofInt i), .ref w]) rfl rfl rfl ?_
  refine mi_wp_p (pc' := 39) (st' := [.int (Int32.ofInt 4), .int (Int32.ofInt i), .ref w]) rfl rfl rfl ?_
  refine ls_div (by omega) (by omega) rfl rfl ?_
  refine mi_wp_p (pc' := 42) (st' := [.ref w, .int (Int32.ofInt (i / 4)), .ref w]) rfl rfl rfl ?_
  refine mi_wp_p (pc' := 44) (st' := [.int (Int32.ofInt i), .ref w, .int (Int32.ofInt (i / 4)), .ref w]) rfl rfl rfl ?_
  refine mi_wp_p (pc' := 45) (st' := [.int (Int32.ofInt 4), .int (Int32.ofInt i), .ref w, .int (Int32.ofInt (i / 4)), .ref w]) rfl rfl rfl ?_
  refine ls_div (by omega) (by omega) rfl rfl ?_
  refine ls_ald (x := wv) A_w rfl rfl (by decide) (by omega) (by omega) hwv ?_
  refine mi_s_k (pc' := 49) (e := 8) rfl rfl rfl (by decide +kernel) ?_
  refine mi_wp_p (pc' := 50) (st' := [.int (Int32.ofInt wv <<< (Int32.ofInt 8 &&& 31)), .int (Int32.ofInt (i / 4)), .ref w]) rfl rfl rfl ?_
  refine mi_wp_p (pc' := 52) (st' := [.int (Int32.ofInt k), .int (Int32.ofInt wv <<< (Int32.ofInt 8 &&& 31)), .int (Int32.ofInt (i / 4)), .ref w]) rfl rfl rfl ?_
  refine mi_wp_p (pc' := 54) (st' := [.int (Int32.ofInt i), .int (Int32.ofInt k), .int (Int32.ofInt wv <<< (Int32.ofInt 8 &&& 31)), .int (Int32.ofInt (i / 4)), .ref w]) rfl rfl rfl ?_
  refine mi_s_add rfl rfl ?_
  refine mi_wp_p (pc' := 56) (st' := [.int (Int32.ofInt z), .int (Int32.ofInt (k + i)), .int (Int32.ofInt wv <<< (Int32.ofInt 8 &&& 31)), .int (Int32.ofInt (i / 4)), .ref w]) rfl rfl rfl ?_
  refine mi_s_if2 (t := 71) rfl rfl rfl (by unfold mi_R; omega) (by unfold mi_R; omega) ?_ ?_
  · intro (c1 : z ≤ (k + i))
    refine mi_s_k (pc' := 73) (e := 32) rfl rfl rfl (by decide +kernel) ?_
    refine mi_s_top (b := b) (hb2 (by omega)).symm ?_
    refine mi_wp_p (pc' := 74) (st' := [.int ((Int32.ofInt wv <<< (Int32.ofInt 8 &&& 31)) ||| Int32.ofInt b), .int (Int32.ofInt (i / 4)), .ref w]) rfl rfl rfl ?_
    rw [i32_or (by omega) (by omega) (by omega) (by omega)]
    refine ls_ast A_w rfl rfl (by decide) (by omega) (by omega) ?_
    intro h2_ A_w f
    replace A_t := LA_F1 A_t f (by omega)
    replace fr := LF_tr1 fr f (Or.inl (by simp))
    refine mi_s_inc (l' := [(6, .int (Int32.ofInt (i + 1))), (5, .ref w), (4, .int (Int32.ofInt k)), (3, .int (Int32.ofInt z)), (2, .int (Int32.ofInt 0)), (0, .ref 0), (1, .ref t)]) rfl rfl rfl (by decide) rfl ?_
    refine mi_wp_p (pc' := 27) rfl rfl rfl ?_
    exact kk _ A_w fr
  · intro (c1 : ¬ (z ≤ (k + i)))
    refine mi_wp_p (pc' := 60) (st' := [.ref t, .int (Int32.ofInt wv <<< (Int32.ofInt 8 &&& 31)), .int (Int32.ofInt (i / 4)), .ref w]) rfl rfl rfl ?_
    refine mi_wp_p (pc' := 61) (st' := [.int (Int32.ofInt 1), .ref t, .int (Int32.ofInt wv <<< (Int32.ofInt 8 &&& 31)), .int (Int32.ofInt (i / 4)), .ref w]) rfl rfl rfl ?_
    refine mi_wp_p (pc' := 63) (st' := [.int (Int32.ofInt k), .int (Int32.ofInt 1), .ref t, .int (Int32.ofInt wv <<< (Int32.ofInt 8 &&& 31)), .int (Int32.ofInt (i / 4)), .ref w]) rfl rfl rfl ?_
    refine mi_s_add rfl rfl ?_
    refine mi_wp_p (pc' := 66) (st' := [.int (Int32.ofInt i), .int (Int32.ofInt (1 + k)), .ref t, .int (Int32.ofInt wv <<< (Int32.ofInt 8 &&& 31)), .int (Int32.ofInt (i / 4)), .ref w]) rfl rfl rfl ?_
    refine mi_s_add rfl rfl ?_
    refine ls_ald (x := b) A_t rfl rfl hn (by omega) (by omega) (hb1 (by omega)) ?_
    refine mi_wp_p (pc' := 73) rfl rfl rfl ?_
    refine mi_wp_p (pc' := 74) (st' := [.int ((Int32.ofInt wv <<< (Int32.ofInt 8 &&& 31)) ||| Int32.ofInt b), .int (Int32.ofInt (i / 4)), .ref w]) rfl rfl rfl ?_
    rw [i32_or (by omega) (by omega) (by omega) (by omega)]
    refine ls_ast A_w rfl rfl (by decide) (by omega) (by omega) ?_
    intro h3_ A_w f
    replace A_t := LA_F1 A_t f (by omega)
    replace fr := LF_tr1 fr f (Or.inl (by simp))
    refine mi_s_inc (l' := [(6, .int (Int32.ofInt (i + 1))), (5, .ref w), (4, .int (Int32.ofInt k)), (3, .int (Int32.ofInt z)), (2, .int (Int32.ofInt 0)), (0, .ref 0), (1, .ref t)]) rfl rfl rfl (by decide) rfl ?_
    refine mi_wp_p (pc' := 27) rfl rfl rfl ?_
    exact kk _ A_w fr
theorem lay_in {w : Nat} {gt : Nat → Int} {k z : Int} {C : Nat → Int} {c s : Nat} {Q : mi_Z → Prop} (A_t : LA h t n gt) (ne : t ≠ w) (hn : n ≤ 100000) (k0 : 0 ≤ k ∧ k < 1200) (z0 : 0 ≤ z ∧ z < n ∧ z ≤ 1200) (hC : ∀ j, 0 ≤ C j ∧ C j < 128) (hb1 : ∀ j : Nat, j < 20 → k + j < z → gt (1 + k + j).toNat = C j) (hb2 : ∀ j : Nat, j < 20 → ¬ (k + j < z) → C j = 32)
    (kk : ∀ h' g', LA h' w 5 g' → (∀ q, q < 5 → g' q = wd C q 4) → LF h h' [w] → mi_wp X d mi_M172 27 [(6, .int (Int32.ofInt 20)), (5, .ref w), (4, .int (Int32.ofInt k)), (3, .int (Int32.ofInt z)), (2, .int (Int32.ofInt 0)), (0, .ref 0), (1, .ref t)] [] h' c s Q) : ∀ (m i : Nat), m + i = 20 → ∀ (h1 : mi_H) (gw : Nat → Int), LA h1 w 5 gw → LF h h1 [w] → (∀ q, q < 5 → gw q = wd C q (min 4 (i - 4 * q))) → mi_wp X d mi_M172 27 [(6, .int (Int32.ofInt (i : Int))), (5, .ref w), (4, .int (Int32.ofInt k)), (3, .int (Int32.ofInt z)), (2, .int (Int32.ofInt 0)), (0, .ref 0), (1, .ref t)] [] h1 c s Q := by
  intro m
  induction m with
  | zero =>
    intro i hi h1 gw A fr hg
    obtain rfl : i = 20 := by omega
    exact kk h1 gw A (fun q hq => by rw [hg q hq, show min 4 (20 - 4 * q) = 4 by omega]) fr
  | succ m ih =>
    intro i hi h1 gw A fr hg
    have e4 : ((i : Int) / 4).toNat = i / 4 := by omega
    have hm : min 4 (i - 4 * (i / 4)) = i % 4 := by omega
    refine lay_turn (wv := wd C (i / 4) (i % 4)) (b := C i) (LA_F1 A_t fr ne) A ne hn (by omega) k0 z0 (by rw [e4, hg _ (by omega), hm]) (wd_r hC _ _ (by omega)) (hC i) (fun h => hb1 i (by omega) h) (fun h => hb2 i (by omega) h) (fun h' A' f => ?_)
    have ei : ((i : Int) + 1) = ((i + 1 : Nat) : Int) := by omega
    rw [ei]
    refine ih (i + 1) (by omega) h' _ A' (LF_tr1 fr f (Or.inl (by simp))) (fun q hq => ?_)
    rw [e4]
    by_cases e : q = i / 4
    · subst e
      rw [va_up_self, show min 4 (i + 1 - 4 * (i / 4)) = i % 4 + 1 by omega]
      show wd C (i / 4) (i % 4) * 256 + C i = wd C (i / 4) (i % 4) * 256 + C (4 * (i / 4) + i % 4)
      rw [show 4 * (i / 4) + i % 4 = i by omega]
    · rw [va_up_ne _ _ e, hg q hq, show min 4 (i + 1 - 4 * q) = min 4 (i - 4 * q) by omega]
theorem lay_feed {σ : mi_Sg} {w : Nat} {gw : Nat → Int} {k z : Int} {C : Nat → Int} {c s : Nat} {Q : mi_Z → Prop} (S : ty_H h σ) (A_w : LA h w 5 gw) (hC : ∀ j, 0 ≤ C j ∧ C j < 128) (hg : ∀ q, q < 5 → gw q = wd C q 4) (s0 : 0 ≤ mi_sF σ 0 10) (s1 : mi_sF σ 0 10 + 20 ≤ 1200)
    (kk : ∀ h', ty_H h' (tapl σ (c20 C)) → mi_Fm h h' → mi_wp X (d + 2) mi_M172 13 [(4, .int (Int32.ofInt (k + 20))), (6, .int (Int32.ofInt 20)), (5, .ref w), (3, .int (Int32.ofInt z)), (2, .int (Int32.ofInt 0)), (0, .ref 0), (1, .ref t)] [] h' c s Q) : mi_wp X (d + 2) mi_M172 27 [(6, .int (Int32.ofInt 20)), (5, .ref w), (4, .int (Int32.ofInt k)), (3, .int (Int32.ofInt z)), (2, .int (Int32.ofInt 0)), (0, .ref 0), (1, .ref t)] [] h c s Q := by
  refine mi_wp_p (pc' := 29) (st' := [.int (Int32.ofInt 20)]) rfl rfl rfl ?_
  refine mi_s_k (pc' := 31) (e := 20) rfl rfl rfl (by decide +kernel) ?_
  refine mi_s_if2 (t := 81) rfl rfl rfl (by unfold mi_R; omega) (by unfold mi_R; omega) (fun _ => ?_) (fun hc_ => absurd (show 20 ≤ (20 : Int) by omega) hc_)
  refine mi_wp_p (pc' := 82) (st' := [.ref 0]) rfl rfl rfl ?_
  refine mi_wp_p (pc' := 84) (st' := [.ref w, .ref 0]) rfl rfl rfl ?_
  refine mi_wp_p (pc' := 85) (st' := [.int (Int32.ofInt 0), .ref w, .ref 0]) rfl rfl rfl ?_
  refine ls_ald (x := (wd C 0 4)) A_w rfl rfl (by decide) (by decide) (by decide) (hg 0 (by decide)) ?_
  refine mi_wp_p (pc' := 88) (st' := [.ref w, .int (Int32.ofInt (wd C 0 4)), .ref 0]) rfl rfl rfl ?_
  refine mi_wp_p (pc' := 89) (st' := [.int (Int32.ofInt 1), .ref w, .int (Int32.ofInt (wd C 0 4)), .ref 0]) rfl rfl rfl ?_
  refine ls_ald (x := (wd C 1 4)) A_w rfl rfl (by decide) (by decide) (by decide) (hg 1 (by decide)) ?_
  refine mi_wp_p (pc' := 92) (st' := [.ref w, .int (Int32.ofInt (wd C 1 4)), .int (Int32.ofInt (wd C 0 4)), .ref 0]) rfl rfl rfl ?_
  refine mi_wp_p (pc' := 93) (st' := [.int (Int32.ofInt 2), .ref w, .int (Int32.ofInt (wd C 1 4)), .int (Int32.ofInt (wd C 0 4)), .ref 0]) rfl rfl rfl ?_
  refine ls_ald (x := (wd C 2 4)) A_w rfl rfl (by decide) (by decide) (by decide) (hg 2 (by decide)) ?_
  refine mi_wp_p (pc' := 96) (st' := [.ref w, .int (Int32.ofInt (wd C 2 4)), .int (Int32.ofInt (wd C 1 4)), .int (Int32.ofInt (wd C 0 4)), .ref 0]) rfl rfl rfl ?_
  refine mi_wp_p (pc' := 97) (st' := [.int (Int32.ofInt 3), .ref w, .int (Int32.ofInt (wd C 2 4)), .int (Int32.ofInt (wd C 1 4)), .int (Int32.ofInt (wd C 0 4)), .ref 0]) rfl rfl rfl ?_
  refine ls_ald (x := (wd C 3 4)) A_w rfl rfl (by decide) (by decide) (by decide) (hg 3 (by decide)) ?_
  refine mi_wp_p (pc' := 100) (st' := [.ref w, .int (Int32.ofInt (wd C 3 4)), .int (Int32.ofInt (wd C 2 4)), .int (Int32.ofInt (wd C 1 4)), .int (Int32.ofInt (wd C 0 4)), .ref 0]) rfl rfl rfl ?_
  refine mi_wp_p (pc' := 101) (st' := [.int (Int32.ofInt 4), .ref w, .int (Int32.ofInt (wd C 3 4)), .int (Int32.ofInt (wd C 2 4)), .int (Int32.ofInt (wd C 1 4)), .int (Int32.ofInt (wd C 0 4)), .ref 0]) rfl rfl rfl ?_
  refine ls_ald (x := (wd C 4 4)) A_w rfl rfl (by decide) (by decide) (by decide) (hg 4 (by decide)) ?_
  refine ls_ti rfl rfl rfl rfl rfl rfl (mi_cal_v2 (np := 5) (args := [.ref 0, .int (Int32.ofInt (wd C 0 4)), .int (Int32.ofInt (wd C 1 4)), .int (Int32.ofInt (wd C 2 4)), .int (Int32.ofInt (wd C 3 4)), .int (Int32.ofInt (wd C 4 4))]) (rest := []) rfl rfl rfl rfl rfl (Nat.le_of_ble_eq_true rfl) rfl rfl (Nat.le_of_ble_eq_true rfl) (ty_rcS S (List.mem_of_getElem? (i := 0) rfl))) (Nat.le_of_ble_eq_true rfl) S (feed20 hC s0 s1) ?_
  intro x hh σ1 S f P
  subst P
  refine mi_wp_p (pc' := 106) (st' := []) rfl rfl rfl ?_
  refine mi_s_inc (l' := [(4, .int (Int32.ofInt (k + 20))), (6, .int (Int32.ofInt 20)), (5, .ref w), (3, .int (Int32.ofInt z)), (2, .int (Int32.ofInt 0)), (0, .ref 0), (1, .ref t)]) rfl rfl rfl (by decide) rfl ?_
  refine mi_wp_p (pc' := 13) rfl rfl rfl ?_
  exact kk _ S f
theorem lay_hd0 {k z : Int} {c s : Nat} {Q : mi_Z → Prop} (k0 : 0 ≤ k ∧ k < z) (z0 : z ≤ 1200)
    (kk : ∀ h' w2, w2 = h.length → LA h' w2 5 (fun _ => 0) → LF h h' [] → mi_wp X d mi_M172 27 [(6, .int (Int32.ofInt 0)), (5, .ref w2), (4, .int (Int32.ofInt k)), (3, .int (Int32.ofInt z)), (2, .int (Int32.ofInt 0)), (0, .ref 0), (1, .ref t)] [] h' (c + 1) (s + 5) Q) : mi_wp X d mi_M172 13 [(4, .int (Int32.ofInt k)), (3, .int (Int32.ofInt z)), (2, .int (Int32.ofInt 0)), (0, .ref 0), (1, .ref t)] [] h c s Q := by
  refine mi_wp_p (pc' := 15) (st' := [.int (Int32.ofInt k)]) rfl rfl rfl ?_
  refine mi_wp_p (pc' := 16) (st' := [.int (Int32.ofInt z), .int (Int32.ofInt k)]) rfl rfl rfl ?_
  refine mi_s_if2 (t := 112) rfl rfl rfl (by unfold mi_R; omega) (by unfold mi_R; omega) (fun hc_ => absurd (show z ≤ k from hc_) (by omega)) (fun _ => ?_)
  refine mi_wp_p (pc' := 20) (st' := [.int (Int32.ofInt 5)]) rfl rfl rfl ?_
  refine ls_new rfl rfl (by omega) (by omega) ?_
  intro h4_ w2 e_w2 A_w2 f e2_w2
  clear e2_w2
  refine mi_wp_p (pc' := 24) (l' := [(5, .ref w2), (4, .int (Int32.ofInt k)), (3, .int (Int32.ofInt z)), (2, .int (Int32.ofInt 0)), (0, .ref 0), (1, .ref t)]) (st' := []) rfl rfl rfl ?_
  refine mi_wp_p (pc' := 25) (st' := [.int (Int32.ofInt 0)]) rfl rfl rfl ?_
  refine mi_wp_p (pc' := 27) (l' := [(6, .int (Int32.ofInt 0)), (5, .ref w2), (4, .int (Int32.ofInt k)), (3, .int (Int32.ofInt z)), (2, .int (Int32.ofInt 0)), (0, .ref 0), (1, .ref t)]) (st' := []) rfl rfl rfl ?_
  exact kk _ w2 e_w2 A_w2 f
theorem lay_hd1 {w : Nat} {k z : Int} {c s : Nat} {Q : mi_Z → Prop} (k0 : 0 ≤ k ∧ k < z) (z0 : z ≤ 1200)
    (kk : ∀ h' w2, w2 = h.length → LA h' w2 5 (fun _ => 0) → LF h h' [] → mi_wp X d mi_M172 27 [(6, .int (Int32.ofInt 0)), (5, .ref w2), (4, .int (Int32.ofInt k)), (3, .int (Int32.ofInt z)), (2, .int (Int32.ofInt 0)), (0, .ref 0), (1, .ref t)] [] h' (c + 1) (s + 5) Q) : mi_wp X d mi_M172 13 [(4, .int (Int32.ofInt k)), (6, .int (Int32.ofInt 20)), (5, .ref w), (3, .int (Int32.ofInt z)), (2, .int (Int32.ofInt 0)), (0, .ref 0), (1, .ref t)] [] h c s Q := by
  refine mi_wp_p (pc' := 15) (st' := [.int (Int32.ofInt k)]) rfl rfl rfl ?_
  refine mi_wp_p (pc' := 16) (st' := [.int (Int32.ofInt z), .int (Int32.ofInt k)]) rfl rfl rfl ?_
  refine mi_s_if2 (t := 112) rfl rfl rfl (by unfold mi_R; omega) (by unfold mi_R; omega) (fun hc_ => absurd (show z ≤ k from hc_) (by omega)) (fun _ => ?_)
  refine mi_wp_p (pc' := 20) (st' := [.int (Int32.ofInt 5)]) rfl rfl rfl ?_
  refine ls_new rfl rfl (by omega) (by omega) ?_
  intro h5_ w2 e_w2 A_w2 f e2_w2
  clear e2_w2
  refine mi_wp_p (pc' := 24) (l' := [(5, .ref w2), (4, .int (Int32.ofInt k)), (6, .int (Int32.ofInt 20)), (3, .int (Int32.ofInt z)), (2, .int (Int32.ofInt 0)), (0, .ref 0), (1, .ref t)]) (st' := []) rfl rfl rfl ?_
  refine mi_wp_p (pc' := 25) (st' := [.int (Int32.ofInt 0)]) rfl rfl rfl ?_
  refine mi_wp_p (pc' := 27) (l' := [(6, .int (Int32.ofInt 0)), (5, .ref w2), (4, .int (Int32.ofInt k)), (3, .int (Int32.ofInt z)), (2, .int (Int32.ofInt 0)), (0, .ref 0), (1, .ref t)]) (st' := []) rfl rfl rfl ?_
  exact kk _ w2 e_w2 A_w2 f
theorem lay_end {σ : mi_Sg} {w : Nat} {k z : Int} {c s Cc T : Nat} {P : Int → mi_H → Prop} (S : ty_H h σ) (kz : ¬ k < z) (k1 : k < 2000) (z0 : 0 ≤ z) (s0 : z ≤ mi_sF σ 0 10) (s1 : mi_sF σ 0 10 ≤ 1200) (hc : c ≤ Cc) (hs : s ≤ T)
    (kk : ∀ h', ty_H h' (mi_uF σ 0 10 (0 + z)) → mi_Fm h h' → P 1 h') : mi_wp X (d + 1) mi_M172 13 [(4, .int (Int32.ofInt k)), (6, .int (Int32.ofInt 20)), (5, .ref w), (3, .int (Int32.ofInt z)), (2, .int (Int32.ofInt 0)), (0, .ref 0), (1, .ref t)] [] h c s (fun z => ∃ v h' c' s', z = (.inl v, h', c', s') ∧ c' ≤ Cc ∧ s' ≤ T ∧ ∃ x, v = some (.int (Int32.ofInt x)) ∧ P x h') := by
  refine mi_wp_p (pc' := 15) (st' := [.int (Int32.ofInt k)]) rfl rfl rfl ?_
  refine mi_wp_p (pc' := 16) (st' := [.int (Int32.ofInt z), .int (Int32.ofInt k)]) rfl rfl rfl ?_
  refine mi_s_if2 (t := 112) rfl rfl rfl (by unfold mi_R; omega) (by unfold mi_R; omega) (fun _ => ?_) (fun hc_ => absurd (show z ≤ k by omega) hc_)
  refine mi_wp_p (pc' := 113) (st' := [.ref 0]) rfl rfl rfl ?_
  refine mi_wp_p (pc' := 114) (st' := [.int (Int32.ofInt 0), .ref 0]) rfl rfl rfl ?_
  refine mi_wp_p (pc' := 115) (st' := [.int (Int32.ofInt z), .int (Int32.ofInt 0), .ref 0]) rfl rfl rfl ?_
  refine mi_s_add rfl rfl ?_
  refine ls_ti rfl rfl rfl rfl rfl rfl (mi_cal_v2 (np := 1) (args := [.ref 0, .int (Int32.ofInt (0 + z))]) (rest := []) rfl rfl rfl rfl rfl (Nat.le_of_ble_eq_true rfl) rfl rfl (Nat.le_of_ble_eq_true rfl) (ty_rcS S (List.mem_of_getElem? (i := 0) rfl))) (Nat.le_of_ble_eq_true rfl) S (tl_trim (n := 0 + z) (by omega) (by omega) s1) ?_
  intro x hh σ1 S f P
  obtain ⟨P, P2⟩ := P
  subst P2
  rw [P]
  refine mi_wp_p (pc' := 120) (st' := [.int (Int32.ofInt 0), .int (Int32.ofInt (0 + z))]) rfl rfl rfl ?_
  refine mi_wp_p (pc' := 121) (st' := [.int (Int32.ofInt z), .int (Int32.ofInt 0), .int (Int32.ofInt (0 + z))]) rfl rfl rfl ?_
  refine mi_s_add rfl rfl ?_
  refine mi_s_if2 (t := 129) rfl rfl rfl (by unfold mi_R; omega) (by unfold mi_R; omega) (fun hc_ => absurd (show (0 + z) ≠ (0 + z) from hc_) (by omega)) (fun _ => ?_)
  refine mi_wp_p (pc' := 126) (st' := [.int (Int32.ofInt 1)]) rfl rfl rfl ?_
  refine mi_wp_p (pc' := 130) rfl rfl rfl ?_
  exact ls_ri rfl rfl rfl rfl hc hs (kk _ S f)
theorem lay_begin {σ : mi_Sg} {gt : Nat → Int} {z : Int} {c s : Nat} {Q : mi_Z → Prop} (S : ty_H h σ) (A_t : LA h t n gt) (t55 : 55 ≤ t) (hn : n ≤ 100000) (h0 : 0 < n) (s0 : mi_sF σ 0 10 = 0) (gz : gt (0 : Int).toNat = z)
    (kk : ∀ h', ty_H h' σ → mi_Fm h h' → LA h' t n gt → mi_wp X (d + 3) mi_M172 13 [(4, .int (Int32.ofInt 0)), (3, .int (Int32.ofInt z)), (2, .int (Int32.ofInt 0)), (0, .ref 0), (1, .ref t)] [] h' c s Q) : mi_wp X (d + 3) mi_M172 0 [(0, .ref 0), (1, .ref t)] [] h c s Q := by
  refine mi_wp_p (pc' := 1) (st' := [.ref 0]) rfl rfl rfl ?_
  refine mi_wp_p (pc' := 2) (st' := [.int (Int32.ofInt 3), .ref 0]) rfl rfl rfl ?_
  refine ls_ti rfl rfl rfl rfl rfl rfl (mi_cal_v2 (np := 1) (args := [.ref 0, .int (Int32.ofInt 3)]) (rest := []) rfl rfl rfl rfl rfl (Nat.le_of_ble_eq_true rfl) rfl rfl (Nat.le_of_ble_eq_true rfl) (ty_rcS S (List.mem_of_getElem? (i := 0) rfl))) (Nat.le_of_ble_eq_true rfl) S tl_count3 ?_
  intro x hh σ1 S f P
  obtain ⟨P, P2⟩ := P
  rw [P2] at S
  clear P2
  rw [P, s0]
  replace A_t := LA_M A_t f t55
  refine mi_wp_p (pc' := 6) (l' := [(2, .int (Int32.ofInt 0)), (0, .ref 0), (1, .ref t)]) (st' := []) rfl rfl rfl ?_
  refine mi_wp_p (pc' := 7) (st' := [.ref t]) rfl rfl rfl ?_
  refine mi_wp_p (pc' := 8) (st' := [.int (Int32.ofInt 0), .ref t]) rfl rfl rfl ?_
  refine ls_ald (x := z) A_t rfl rfl hn (by omega) (by omega) gz ?_
  refine mi_wp_p (pc' := 10) (l' := [(3, .int (Int32.ofInt z)), (2, .int (Int32.ofInt 0)), (0, .ref 0), (1, .ref t)]) (st' := []) rfl rfl rfl ?_
  refine mi_wp_p (pc' := 11) (st' := [.int (Int32.ofInt 0)]) rfl rfl rfl ?_
  refine mi_wp_p (pc' := 13) (l' := [(4, .int (Int32.ofInt 0)), (3, .int (Int32.ofInt z)), (2, .int (Int32.ofInt 0)), (0, .ref 0), (1, .ref t)]) (st' := []) rfl rfl rfl ?_
  exact kk _ S f A_t
/-- one turn of the outer loop, behind its head -/
theorem lay_mid {σ : mi_Sg} {w : Nat} {bs : List Int} {gt : Nat → Int} {k : Nat} {c s : Nat} {Q : mi_Z → Prop} (S : ty_H h σ) (A_t : LA h t n gt) (A_w : LA h w 5 (fun _ => 0)) (ne : t ≠ w) (w55 : 55 ≤ w) (t55 : 55 ≤ t) (hn : n ≤ 100000) (hk : k < bs.length) (hz : bs.length < n ∧ bs.length ≤ 1200) (hr : k + 20 ≤ 1200) (hb : ∀ b ∈ bs, 0 ≤ b ∧ b < 128) (hg : ∀ (i : Nat) (b : Int), bs[i]? = some b → gt (i + 1) = b) (s0 : mi_sF σ 0 10 = (k : Int))
    (kk : ∀ h' σ', ty_H h' σ' → LG h h' [w] → LA h' t n gt → mi_sF σ' 0 10 = ((k + 20 : Nat) : Int) → sg_Af [1] [(0, 10)] σ σ' → (∀ i, i < (k : Int) → mi_sA σ' 1 i = mi_sA σ 1 i) → (∀ (j : Nat) (b : Int), k ≤ j → j < k + 20 → bs[j]? = some b → mi_sA σ' 1 (j : Int) = b) → mi_wp X (d + 2) mi_M172 13 [(4, .int (Int32.ofInt ((k + 20 : Nat) : Int))), (6, .int (Int32.ofInt 20)), (5, .ref w), (3, .int (Int32.ofInt (bs.length : Int))), (2, .int (Int32.ofInt 0)), (0, .ref 0), (1, .ref t)] [] h' c s Q) : mi_wp X (d + 2) mi_M172 27 [(6, .int (Int32.ofInt 0)), (5, .ref w), (4, .int (Int32.ofInt (k : Int))), (3, .int (Int32.ofInt (bs.length : Int))), (2, .int (Int32.ofInt 0)), (0, .ref 0), (1, .ref t)] [] h c s Q := by
  have hC : ∀ j, 0 ≤ (fun j : Nat => bs.getD (k + j) 32) j ∧ (fun j : Nat => bs.getD (k + j) 32) j < 128 := fun j => by
    show 0 ≤ bs.getD (k + j) 32 ∧ bs.getD (k + j) 32 < 128
    rw [List.getD_eq_getElem?_getD]
    cases e : bs[k + j]? with
    | none => exact ⟨by decide, by decide⟩
    | some b => exact hb b (List.mem_of_getElem? e)
  refine lay_in (C := fun j : Nat => bs.getD (k + j) 32) A_t ne hn (by omega) (by omega) hC (fun j hj h => ?_) (fun j hj h => ?_) (fun h' g' A' hg' f => ?_) 20 0 rfl h _ A_w (LF_rf _ _) (fun q hq => ?_)
  · show gt (1 + (k : Int) + (j : Int)).toNat = bs.getD (k + j) 32
    have hlt : k + j < bs.length := by omega
    rw [show (1 + (k : Int) + (j : Int)).toNat = k + j + 1 by omega, List.getD_eq_getElem?_getD, List.getElem?_eq_getElem hlt]
    exact hg _ _ (List.getElem?_eq_getElem hlt)
  · show bs.getD (k + j) 32 = 32
    rw [List.getD_eq_getElem?_getD, List.getElem?_eq_none (by omega)]
    rfl
  · refine lay_feed (ty_H_F1 S f w55) A' hC hg' (by omega) (by omega) (fun h2 S2 f2 => ?_)
    obtain ⟨e1, e2, e3, e4⟩ := tapl_s (c20 (fun j : Nat => bs.getD (k + j) 32)) σ
    have ek : ((k : Int) + 20) = ((k + 20 : Nat) : Int) := by omega
    rw [ek]
    refine kk h2 _ S2 (LG_tr (LG_F f) (LG_M f2) (fun q m => by cases m)) (LA_M (LA_F1 A_t f ne) f2 t55) (by rw [e1, s0]; show (k : Int) + ((20 : Nat) : Int) = _; omega) e2 (fun i hi => e3 i (by omega)) (fun j b j0 j1 hj => ?_)
    · have := e4 (j - k) b (by rw [c20_j _ (by omega)]; show some (bs.getD (k + (j - k)) 32) = _; rw [show k + (j - k) = j by omega, List.getD_eq_getElem?_getD, hj]; rfl)
      rw [s0, show (k : Int) + ((j - k : Nat) : Int) = (j : Int) by omega] at this
      exact this
  · rw [show min 4 (0 - 4 * q) = 0 by omega]
    rfl
/-- what lay leaves on the tape -/
def LYQ (σ : mi_Sg) (bs : List Int) (σ' : mi_Sg) : Prop := sg_Af [1] [(0, 10)] σ σ' ∧ TX σ' bs
theorem lay_out {σ0 : mi_Sg} {h0 : mi_H} {bs : List Int} {gt : Nat → Int} (t55 : 55 ≤ t) (hn : n ≤ 100000) (hz : bs.length < n ∧ bs.length ≤ 1200) (hb : ∀ b ∈ bs, 0 ≤ b ∧ b < 128) (hg : ∀ (i : Nat) (b : Int), bs[i]? = some b → gt (i + 1) = b) {P : Int → mi_H → Prop} {Cc T : Nat}
    (kk : ∀ h' σ', ty_H h' σ' → LG h0 h' [] → LYQ σ0 bs σ' → P 1 h') : ∀ (m k : Nat), bs.length ≤ k + 20 * m → k + 20 * m ≤ 1200 → ∀ (h : mi_H) (σ : mi_Sg) (w c s : Nat), ty_H h σ → LG h0 h [] → LA h t n gt → t < h0.length → h0.length ≤ h.length → c + m ≤ Cc → s + 5 * m ≤ T → sg_Af [1] [(0, 10)] σ0 σ → mi_sF σ 0 10 = (k : Int) → (∀ (j : Nat) (b : Int), j < k → bs[j]? = some b → mi_sA σ 1 (j : Int) = b) → mi_wp X (d + 2) mi_M172 13 [(4, .int (Int32.ofInt (k : Int))), (6, .int (Int32.ofInt 20)), (5, .ref w), (3, .int (Int32.ofInt (bs.length : Int))), (2, .int (Int32.ofInt 0)), (0, .ref 0), (1, .ref t)] [] h c s (fun z => ∃ v h' c' s', z = (.inl v, h', c', s') ∧ c' ≤ Cc ∧ s' ≤ T ∧ ∃ x, v = some (.int (Int32.ofInt x)) ∧ P x h') := by
  intro m
  have stop : ∀ (k : Nat), bs.length ≤ k → k ≤ 1200 → ∀ (h : mi_H) (σ : mi_Sg) (w c s : Nat), ty_H h σ → LG h0 h [] → c ≤ Cc → s ≤ T → sg_Af [1] [(0, 10)] σ0 σ → mi_sF σ 0 10 = (k : Int) → (∀ (j : Nat) (b : Int), j < k → bs[j]? = some b → mi_sA σ 1 (j : Int) = b) → mi_wp X (d + 2) mi_M172 13 [(4, .int (Int32.ofInt (k : Int))), (6, .int (Int32.ofInt 20)), (5, .ref w), (3, .int (Int32.ofInt (bs.length : Int))), (2, .int (Int32.ofInt 0)), (0, .ref 0), (1, .ref t)] [] h c s (fun z => ∃ v h' c' s', z = (.inl v, h', c', s') ∧ c' ≤ Cc ∧ s' ≤ T ∧ ∃ x, v = some (.int (Int32.ofInt x)) ∧ P x h') := by
    intro k hk hk2 h σ w c s S fr hc hs F e10 hr
    refine lay_end (d := d + 1) S (by omega) (by omega) (by omega) (by omega) (by omega) hc hs (fun h' S' f => kk h' _ S' (LG_tr fr (LG_M f) (fun q m => by cases m)) ⟨sg_Af_F F (by simp), ?_, fun i b hi => ?_⟩)
    · rw [mi_FF, if_pos ⟨rfl, rfl⟩]
      omega
    · rw [mi_AF]
      have := (List.getElem?_eq_some_iff.mp hi).1
      have e := hr i b (by omega) hi
      rw [show (0 : Int) + (i : Int) = (i : Int) by omega]
      exact e
  induction m with
  | zero =>
    intro k hk hk2 h σ w c s S fr A ht hl hc hs F e10 hr
    exact stop k (by omega) (by omega) h σ w c s S fr (by omega) (by omega) F e10 hr
  | succ m ih =>
    intro k hk hk2 h σ w c s S fr A ht hl hc hs F e10 hr
    by_cases hlt : k < bs.length
    · refine lay_hd1 (by omega) (by omega) (fun h1 w2 e2 A2 f1 => ?_)
      have l55 := ty_H_55 S
      refine lay_mid (ty_H_F0 S f1) (LA_F0 A f1) A2 (by omega) (by omega) t55 hn hlt hz (by omega) hb hg e10 (fun h2 σ2 S2 f2 A2' e10' F2 r1 r2 => ?_)
      refine ih (k + 20) (by omega) (by omega) h2 σ2 w2 (c + 1) (s + 5) S2 (LG_tr (LG_tr0 fr (LG_F f1)) f2 (fun q m => by cases List.mem_singleton.mp m; exact Or.inr (by omega))) A2' ht (Nat.le_trans hl (Nat.le_trans f1.1 f2.1)) (by omega) (by omega) (sg_Af_tr F F2) e10' (fun j b hj hb' => ?_)
      by_cases hjk : j < k
      · rw [r1 _ (by omega)]
        exact hr j b hjk hb'
      · exact r2 j b (by omega) hj hb'
    · exact stop k (by omega) (by omega) h σ w c s S fr (by omega) (by omega) F e10 hr
/-- lay: the text stands on the tape -/
theorem lw_lay {σ : mi_Sg} {bs : List Int} (S : ty_H h σ) (A : LT h t n bs) (t55 : 55 ≤ t) (hn : n ≤ 100000) (hz : bs.length < n ∧ bs.length ≤ 1180) (h0 : 0 < bs.length) (hb : ∀ b ∈ bs, 0 ≤ b ∧ b < 128) (s0 : mi_sF σ 0 10 = 0) : LCi X (d + 3) mi_M172 [(0, .ref 0), (1, .ref t)] h 60 300 (fun x h' => x = 1 ∧ LG h h' [] ∧ ∃ σ', ty_H h' σ' ∧ LYQ σ bs σ') := by
  obtain ⟨g, A, g0, gb⟩ := A
  unfold LCi LC
  refine lay_begin (d := d) S A t55 hn (by omega) s0 g0 (fun h1 S1 f1 A1 => ?_)
  refine lay_hd0 (by omega) (by omega) (fun h2 w2 e2 A2 f2 => ?_)
  have l55 := ty_H_55 S1
  have ht1 := LA_lt A1
  have ht := LA_lt A
  refine lay_mid (k := 0) (ty_H_F0 S1 f2) (LA_F0 A1 f2) A2 (by omega) (by omega) t55 hn h0 ⟨hz.1, by omega⟩ (by omega) hb gb s0 (fun h3 σ3 S3 f3 A3 e10 F3 r1 r2 => ?_)
  refine lay_out (h0 := h) (σ0 := σ) t55 hn ⟨hz.1, by omega⟩ hb gb (fun h' σ' S' fr q => ⟨rfl, fr, σ', S', q⟩) 59 20 (by omega) (by omega) h3 σ3 w2 _ _ S3 ?_ A3 ht ?_ (by omega) (by omega) F3 e10 (fun j b hj hb' => r2 j b (by omega) hj hb')
  · exact LG_tr (LG_tr0 (LG_M f1) (LG_F f2)) f3 (fun q m => by cases List.mem_singleton.mp m; exact Or.inr (by have := f1.1; omega))
  · exact Nat.le_trans (Nat.le_of_eq f1.1.symm) (Nat.le_trans f2.1 f3.1)
end LW
