/-! ===== rows of bytes and of truths; lengths ===== -/
theorem nar_byte {e : Int} (h0 : -128 ≤ e) (h1 : e ≤ 127) : vp_nar .byte (Int32.ofInt e) = Int32.ofInt e := by
  show (Int32.ofInt e).toInt8.toInt32 = _
  apply Int32.toInt_inj.mp
  rw [Int8.toInt_toInt32, Int32.toInt_toInt8, mi_tI_of ⟨by omega, by omega⟩, Int.bmod_def]
  split <;> omega
theorem nar_bool {e : Int} (h : e = 0 ∨ e = 1) : vp_nar .boolean (Int32.ofInt e) = Int32.ofInt e := by
  rcases h with rfl | rfl <;> decide
section BY
variable {X : mi_X} {d : Nat} {M : mi_M} {pc c s k n : Nat} {l : mi_L} {r : List Value} {h : mi_H} {Q : mi_Z → Prop} {σ : mi_Sg} {e x : Int}
theorem mi_wp_bald {t : Nat} {f : Nat → Int32} {j : Int32} (ht : mi_lk (mi_th M) pc = none) (hi : mi_lk (mi_cd M) pc = some (.baload, 1)) (ha : mi_ai h k = some (t, n, f)) (ht2 : t = 2 ∨ t = 3) (hb : mi_inb j n = true) (kk : mi_wp X d M (pc + 1) l (.int (f j.toNatClampNeg) :: r) h c s Q) : mi_wp X d M pc l (.int j :: .ref k :: r) h c s Q := by
  refine mi_wp_m ht hi rfl (by unfold mi_ret; rfl) rfl ?_ kk
  show (match mi_ald 2 (pc + 1) (.int j :: .ref k :: r) h c s with | some q => some q | none => (match mi_ald 3 (pc + 1) (.int j :: .ref k :: r) h c s with | some q => some q | none => _)) = _
  have h1 := mi_ai_inv ha
  rcases ht2 with rfl | rfl
  · have : mi_ald 2 (pc + 1) (.int j :: .ref k :: r) h c s = some (pc + 1, .int (f j.toNatClampNeg) :: r, h, c, s) := by
      unfold mi_ald
      simp only [h1]
      exact if_pos ⟨trivial, hb⟩
    rw [this]
  · have e2 : mi_ald 2 (pc + 1) (.int j :: .ref k :: r) h c s = none := by
      unfold mi_ald
      simp only [h1]
      exact if_neg (fun q => absurd q.1 (by decide))
    have : mi_ald 3 (pc + 1) (.int j :: .ref k :: r) h c s = some (pc + 1, .int (f j.toNatClampNeg) :: r, h, c, s) := by
      unfold mi_ald
      simp only [h1]
      exact if_pos ⟨trivial, hb⟩
    rw [e2, this]
theorem mi_wp_zas {f : Nat → Int32} {y j : Int32} (ht : mi_lk (mi_th M) pc = none) (hi : mi_lk (mi_cd M) pc = some (.bastore, 1)) (ha : mi_ai h k = some (3, n, f)) (hb : mi_inb j n = true) (kk : mi_wp X d M (pc + 1) l r (mi_aw h k j.toNatClampNeg (vp_nar .boolean y)) c s Q) : mi_wp X d M pc l (.int y :: .int j :: .ref k :: r) h c s Q := by
  refine mi_wp_m ht hi rfl (by unfold mi_ret; rfl) rfl ?_ kk
  show (match mi_ast 2 (vp_nar .byte) (pc + 1) (.int y :: .int j :: .ref k :: r) h c s with | some q => some q | none => mi_ast 3 (vp_nar .boolean) (pc + 1) (.int y :: .int j :: .ref k :: r) h c s) = _
  have h1 := mi_ai_inv ha
  have e2 : mi_ast 2 (vp_nar .byte) (pc + 1) (.int y :: .int j :: .ref k :: r) h c s = none := by
    unfold mi_ast
    simp only [h1]
    exact if_neg (fun q => absurd q.1 (by decide))
  have : mi_ast 3 (vp_nar .boolean) (pc + 1) (.int y :: .int j :: .ref k :: r) h c s = some (pc + 1, r, mi_aw h k j.toNatClampNeg (vp_nar .boolean y), c, s) := by
    unfold mi_ast mi_aw
    simp only [h1]
    exact if_pos ⟨trivial, hb⟩
  rw [e2, this]
theorem mi_wp_lni {t : Nat} {f : Nat → Int32} (ht : mi_lk (mi_th M) pc = none) (hi : mi_lk (mi_cd M) pc = some (.arraylength, 1)) (ha : mi_ai h k = some (t, n, f)) (h4 : t < 4) (kk : mi_wp X d M (pc + 1) l (.int (Int32.ofNat n) :: r) h c s Q) : mi_wp X d M pc l (.ref k :: r) h c s Q := by
  refine mi_wp_m ht hi rfl (by unfold mi_ret; rfl) rfl ?_ kk
  show mi_alen X (pc + 1) (.ref k :: r) h c s = _
  unfold mi_alen
  simp only [mi_ai_inv ha]
  exact if_pos h4
theorem mi_wp_lnl {f : Nat → Int64} (ht : mi_lk (mi_th M) pc = none) (hi : mi_lk (mi_cd M) pc = some (.arraylength, 1)) (ha : mi_al h k = some (n, f)) (kk : mi_wp X d M (pc + 1) l (.int (Int32.ofNat n) :: r) h c s Q) : mi_wp X d M pc l (.ref k :: r) h c s Q := by
  refine mi_wp_m ht hi rfl (by unfold mi_ret; rfl) rfl ?_ kk
  show mi_alen X (pc + 1) (.ref k :: r) h c s = _
  unfold mi_alen
  simp only [mi_al_inv ha]
  exact if_pos (show (1 : Nat) < 4 by decide)
/-- the same over σ -/
theorem ty_s_bld {t : Nat} (S : ty_H h σ) (ht : mi_lk (mi_th M) pc = none) (hi : mi_lk (mi_cd M) pc = some (.baload, 1)) (hm : (k, t, n) ∈ mi_tA) (hn : n ≤ 100000 ∧ k ≠ 12) (ht2 : t = 2 ∨ t = 3) (h0 : 0 ≤ e) (h1 : e < (n : Int)) (hv : mi_sA σ k e = x) (kk : mi_wp X d M (pc + 1) l (.int (Int32.ofInt x) :: r) h c s Q) : mi_wp X d M pc l (.int (Int32.ofInt e) :: .ref k :: r) h c s Q := by
  obtain ⟨e0, L, t', S1, V⟩ := S
  subst hv
  refine mi_wp_bald ht hi (S1.2.2.2.2.1 _ hm) ht2 (mi_inb_i h0 h1 hn.1) ?_
  obtain ⟨g1, g2⟩ := mi_toN h0 h1 hn.1
  dsimp only
  rw [g1, g2, mi_wL_A hn.2]
  exact kk
theorem ty_s_bst (S : ty_H h σ) (ht : mi_lk (mi_th M) pc = none) (hi : mi_lk (mi_cd M) pc = some (.bastore, 1)) (hm : (k, 2, n) ∈ mi_tA) (hk : k < 55) (hn : n ≤ 100000 ∧ k ≠ 12) (hx : -128 ≤ x ∧ x ≤ 127) (h0 : 0 ≤ e) (h1 : e < (n : Int)) (kk : ∀ h', ty_H h' (mi_uA σ k e x) → mi_Fm h h' → mi_wp X d M (pc + 1) l r h' c s Q) : mi_wp X d M pc l (.int (Int32.ofInt x) :: .int (Int32.ofInt e) :: .ref k :: r) h c s Q := by
  obtain ⟨e0, L, t', S1, V⟩ := S
  obtain ⟨g1, g2⟩ := mi_toN h0 h1 hn.1
  refine mi_wp_bas ht hi (S1.2.2.2.2.1 _ hm) (mi_inb_i h0 h1 hn.1) ?_
  have S' := mi_St_pA S1 hm e.toNat x
  rw [g2, mi_wL_uA hn.2] at S'
  rw [g1, nar_byte hx.1 hx.2]
  refine kk _ (ty_H_of e0 V S' ⟨rfl, rfl⟩ ?_ ⟨rfl, rfl⟩) (mi_Fm_aw hk)
  funext i
  rw [mi_AA, if_neg (fun q => hn.2 q.1.symm)]
theorem ty_s_zst (S : ty_H h σ) (ht : mi_lk (mi_th M) pc = none) (hi : mi_lk (mi_cd M) pc = some (.bastore, 1)) (hm : (k, 3, n) ∈ mi_tA) (hk : k < 55) (hn : n ≤ 100000 ∧ k ≠ 12) (hx : x = 0 ∨ x = 1) (h0 : 0 ≤ e) (h1 : e < (n : Int)) (kk : ∀ h', ty_H h' (mi_uA σ k e x) → mi_Fm h h' → mi_wp X d M (pc + 1) l r h' c s Q) : mi_wp X d M pc l (.int (Int32.ofInt x) :: .int (Int32.ofInt e) :: .ref k :: r) h c s Q := by
  obtain ⟨e0, L, t', S1, V⟩ := S
  obtain ⟨g1, g2⟩ := mi_toN h0 h1 hn.1
  refine mi_wp_zas ht hi (S1.2.2.2.2.1 _ hm) (mi_inb_i h0 h1 hn.1) ?_
  have S' := mi_St_pA S1 hm e.toNat x
  rw [g2, mi_wL_uA hn.2] at S'
  rw [g1, nar_bool hx]
  refine kk _ (ty_H_of e0 V S' ⟨rfl, rfl⟩ ?_ ⟨rfl, rfl⟩) (mi_Fm_aw hk)
  funext i
  rw [mi_AA, if_neg (fun q => hn.2 q.1.symm)]
theorem ty_s_lna {t : Nat} (S : ty_H h σ) (ht : mi_lk (mi_th M) pc = none) (hi : mi_lk (mi_cd M) pc = some (.arraylength, 1)) (hm : (k, t, n) ∈ mi_tA) (h4 : t < 4) (kk : mi_wp X d M (pc + 1) l (.int (Int32.ofInt (n : Int)) :: r) h c s Q) : mi_wp X d M pc l (.ref k :: r) h c s Q := by
  obtain ⟨e0, L, t', S1, V⟩ := S
  refine mi_wp_lni ht hi (S1.2.2.2.2.1 _ hm) h4 ?_
  rw [show Int32.ofNat n = Int32.ofInt (n : Int) from (Int32.ofInt_eq_ofNat (n := n)).symm]
  exact kk
theorem ty_s_lnl (S : ty_H h σ) (ht : mi_lk (mi_th M) pc = none) (hi : mi_lk (mi_cd M) pc = some (.arraylength, 1)) (hm : (k, n) ∈ mi_tL) (kk : mi_wp X d M (pc + 1) l (.int (Int32.ofInt (n : Int)) :: r) h c s Q) : mi_wp X d M pc l (.ref k :: r) h c s Q := by
  obtain ⟨e0, L, t', S1, V⟩ := S
  refine mi_wp_lnl ht hi (S1.2.2.2.2.2 _ hm) ?_
  rw [show Int32.ofNat n = Int32.ofInt (n : Int) from (Int32.ofInt_eq_ofNat (n := n)).symm]
  exact kk
end BY
