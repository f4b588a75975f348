/-! ===== every type's steps, by induction ===== -/
def FEw (X : mi_X) (d : Nat) (h0 : mi_H) (Q : mi_Z → Prop) (E : Int → Int64) (w : Nat) (e : tr) : Prop := ∀ (p s0 : Int) (σ : mi_Sg) (Sx : Int → Prop) (T : Int → tr) (ls : List tr), (w ≠ 0 → ls = []) → FB Sx T σ → mi_sE σ 8 = E → 0 ≤ p → p + (tkf w e).length ≤ mi_sF σ 3 7 → ST σ s0 (stf w ls.length p e) → kyp E w p e → (ls.length : Int) ≤ mi_sF σ 48 7 → mi_sF σ 48 7 + pz e ≤ 300 → mi_sF σ 9 8 + pz e + ls.length ≤ 512 → LTs σ T ls → (∀ S1 T1 σ1, FR Sx T σ S1 T1 σ1 ls.length (arr ls e) (pz e + ls.length) → RH X d h0 Q (s0 + (stf w ls.length p e).length) σ1) → RH X d h0 Q s0 σ
section FE
variable {X : mi_X} {d : Nat} {h0 : mi_H} {Q : mi_Z → Prop} {E : Int → Int64}
theorem FE_of {e : tr} (h : ∀ w, FEw X d h0 Q E w e) : FE X d h0 Q E e := fun w => h w
theorem FEw_par {e : tr} {w : Nat} (h : FEw X d h0 Q E 0 e) (hw : w ≠ 0) (e1 : ∀ p, stf w 0 p e = stf 0 0 (p + 1) e) (e2 : tkf w e = 40 :: (tkf 0 e ++ [41])) (e3 : ∀ p, kyp E w p e = kyp E 0 (p + 1) e) : FEw X d h0 Q E w e := by
  intro p s0 σ Sx T ls hls B hE p0 p1 S ky hs h3 h5 L K
  obtain rfl := hls hw
  have e1' : stf w ([] : List tr).length p e = stf 0 ([] : List tr).length (p + 1) e := e1 p
  rw [e2, List.length_cons, List.length_append, List.length_singleton] at p1
  rw [e1'] at S K
  rw [e3] at ky
  exact h (p + 1) s0 σ Sx T [] (fun q => absurd rfl q) B hE (by omega) (by omega) S ky hs h3 h5 L K
theorem pz_wt {e : tr} (h : wt e) : 1 ≤ pz e := by
  rcases wt_c h with ⟨v, rfl⟩ | (rfl | rfl) | ⟨a, b, -, -, rfl | rfl⟩ | ⟨a, -, rfl⟩
  · unfold pz; omega
  · rw [pz_tn (by omega)]; simp [tr_0, pz]
  · rw [pz_tn (by omega)]; simp [tr_0, pz]
  · have := pz_0 a; have := pz_0 b; rw [pz_tn (by omega)]; simp [tr_0, pz]; omega
  · have := pz_0 a; have := pz_0 b; rw [pz_tn (by omega)]; simp [tr_0, pz]; omega
  · have := pz_0 a; rw [pz_tn (by omega)]; simp [tr_0, pz]; omega
theorem FE_all : ∀ (m : Nat) (e : tr), hg e = m → wt e → (∀ v, vin v e → v < 6) → FE X d h0 Q E e := by
  intro m
  induction m using Nat.strongRecOn with
  | ind m ih =>
    intro e hm he h6
    rcases wt_c he with ⟨v, rfl⟩ | hI | ⟨a, b, ha, hb, hP⟩ | ⟨a, ha, rfl⟩
    · intro w p s0 σ Sx T ls hls B hE p0 p1 S ky hs h3 h5 L K
      have hv6 : v < 6 := h6 v (by unfold vin; rfl)
      have hz : pz (.var v) = 1 := by unfold pz; rfl
      rw [tkf_v, List.length_singleton] at p1
      rw [kyp_v] at ky
      rw [stf_v] at S K
      refine FE_w (core := [(5, p, 0)]) (e := .var v) hls B hs (by omega) h5 h6 L S (fun C => FE_var (v := v) B hE p0 (by omega) S ky hv6 (by omega) (by omega) (by omega) (fun S1 T1 σ1 R => C S1 T1 σ1 (by rw [hz]; exact R))) K
    · intro w p s0 σ Sx T ls hls B hE p0 p1 S ky hs h3 h5 L K
      have hz : pz e = 1 := by rcases hI with rfl | rfl <;> rfl
      have ek : tkf w e = [13] := by rcases hI with rfl | rfl; exact tkf_1; exact tkf_2
      have es : ∀ w n p, stf w n p e = [(6, p, 0), (7, p, 0)] ++ (if w = 0 then [(9, (n : Int), 0)] else []) := fun w n p => by rcases hI with rfl | rfl; exact stf_1; exact stf_2
      rw [ek, List.length_singleton] at p1
      rw [es] at S K
      have hnd : ∃ nd : Int, (nd = 1 ∧ e = tn 1 tr_0 tr_0 tr_0 ∧ E p = 6909556) ∨ (nd = 2 ∧ e = tn 2 tr_0 tr_0 tr_0 ∧ E p = 1651470188) := by
        rcases hI with rfl | rfl
        · rw [kyp_1] at ky
          exact ⟨1, Or.inl ⟨rfl, rfl, ky⟩⟩
        · rw [kyp_2] at ky
          exact ⟨2, Or.inr ⟨rfl, rfl, ky⟩⟩
      obtain ⟨nd, hnd⟩ := hnd
      refine FE_w (core := [(6, p, 0), (7, p, 0)]) (e := e) hls B hs (by omega) h5 h6 L S (fun C => FE_ib (nd := nd) (e := e) B hE p0 (by omega) S hnd (by omega) (by omega) (fun S1 T1 σ1 R => ?_)) K
      have := C S1 T1 σ1 (by rw [hz]; exact R)
      rw [show s0 + 1 + 1 = s0 + 2 by omega]
      exact this
    · have hh : hg e = 1 + max (hg a) (hg b) := by rcases hP with rfl | rfl <;> exact hg_tn _ _ _ _
      have hz : pz e = 1 + pz a + pz b := by
        rcases hP with rfl | rfl
        · rw [pz_tn (by omega)]
          simp [tr_0, pz]
        · rw [pz_tn (by omega)]
          simp [tr_0, pz]
      have za := pz_wt ha
      have zb := pz_wt hb
      have va : ∀ v, vin v a → v < 6 := fun v q => h6 v (by rcases hP with rfl | rfl <;> exact Or.inr (Or.inl q))
      have vb : ∀ v, vin v b → v < 6 := fun v q => h6 v (by rcases hP with rfl | rfl <;> exact Or.inr (Or.inr (Or.inl q)))
      have IA := ih (hg a) (by omega) a rfl ha va
      have IB := ih (hg b) (by omega) b rfl hb vb
      rcases hP with rfl | rfl
      · have main : ∀ w, w ≤ 1 → FEw X d h0 Q E w (tn 5 a b tr_0) := by
          intro w hw p s0 σ Sx T ls hls B hE p0 p1 S ky hs h3 h5 L K
          rw [tkf_5, if_neg (by omega), List.length_append, List.length_cons] at p1
          rw [kyp_5, if_neg (by omega)] at ky
          rw [stf_5, if_neg (by omega)] at S K
          refine FE_w (e := tn 5 a b tr_0) hls B hs (by omega) h5 h6 L S (fun C => ?_) K
          have Sc := (ST_sp S).1
          rw [List.length_append, List.length_append, List.length_singleton] at C
          refine FE_nil IA B hE p0 (by omega) (ST_sp Sc).1 ky.1 (by omega) (by omega) (by omega) (fun S1 T1 σ1 R => ?_)
          obtain ⟨f1, f2, f3, f4⟩ := FR_f R
          have Sc2 := ST_X R.2.2.1 (ST_sp Sc).2
          refine FE_nil IB (FB_R B R) (f1.trans hE) (by omega) (by rw [f2]; omega) (ST_sp Sc2).1 ky.2 (by omega) (by omega) (by omega) (fun S2 T2 σ2 R2 => ?_)
          obtain ⟨g1, g2, g3, g4⟩ := FR_f R2
          have Sc3 := ST_X R2.2.2.1 (ST_sp Sc2).2
          obtain ⟨S3, T3, R3⟩ := FR_5 B (by omega) R R2 va
          refine RS (FB_R (FB_R B R) R2) Sc3 (by omega) (ft8 (d := d + 10) (fo_joinPair (d := d + 7) (by omega) (by omega) (by omega))) (fun σ' q => ?_)
          have := C S3 T3 σ' (by rw [q, hz]; exact R3)
          rw [show s0 + ((stf 2 0 p a).length : Int) + ((stf 2 0 (p + (tkf 2 a).length + 1) b).length : Int) + 1 = s0 + (((stf 2 0 p a).length + ((stf 2 0 (p + (tkf 2 a).length + 1) b).length + 1) : Nat) : Int) by omega]
          exact this
        refine FE_of (fun w => ?_)
        by_cases hw : w ≤ 1
        · exact main w hw
        · exact FEw_par (main 0 (by omega)) (by omega) (fun p => by rw [stf_5, if_pos (by omega), stf_5, if_neg (by omega)]; rfl) (by rw [tkf_5, if_pos (by omega), tkf_5, if_neg (by omega)]) (fun p => by rw [kyp_5, if_pos (by omega), kyp_5, if_neg (by omega)])
      · have main : FEw X d h0 Q E 0 (tn 6 a b tr_0) := by
          intro p s0 σ Sx T ls hls B hE p0 p1 S ky hs h3 h5 L K
          rw [tkf_6, if_neg (by omega), List.length_append, List.length_cons] at p1
          rw [kyp_6, if_neg (by omega)] at ky
          rw [stf_6, if_neg (by omega)] at S K
          rw [List.length_append] at K
          refine FE_nil IA B hE p0 (by omega) (ST_sp S).1 ky.1 (by omega) (by omega) (by omega) (fun S1 T1 σ1 R => ?_)
          obtain ⟨f1, f2, f3, f4⟩ := FR_f R
          have Sc2 := ST_X R.2.2.1 (ST_sp S).2
          have hl : (ls ++ [a]).length = ls.length + 1 := by rw [List.length_append, List.length_singleton]
          refine IB 0 (p + (tkf 1 a).length + 1) (s0 + (stf 1 0 p a).length) σ1 S1 T1 (ls ++ [a]) (fun q => absurd rfl q) (FB_R B R) (f1.trans hE) (by omega) (by rw [f2]; omega) (by rw [hl]; exact Sc2) ky.2 (by omega) (by omega) (by omega) (LTs_R B hs va L R) (fun S2 T2 σ2 R2 => ?_)
          rw [hl, arr_app] at R2
          have := K S2 T2 σ2 (FR_tr (k := (ls.length : Int)) (by omega) R (by rw [show (ls.length : Int) + 1 = ((ls.length + 1 : Nat) : Int) by omega]; exact R2) (by omega))
          rw [hl, show s0 + ((stf 1 0 p a).length : Int) + ((stf 0 (ls.length + 1) (p + (tkf 1 a).length + 1) b).length : Int) = s0 + (((stf 1 0 p a).length + (stf 0 (ls.length + 1) (p + (tkf 1 a).length + 1) b).length : Nat) : Int) by omega]
          exact this
        refine FE_of (fun w => ?_)
        by_cases hw : w = 0
        · rw [hw]; exact main
        · exact FEw_par main hw (fun p => by rw [stf_6, if_pos (by omega), stf_6, if_neg (by omega)]) (by rw [tkf_6, if_pos (by omega), tkf_6, if_neg (by omega)]) (fun p => by rw [kyp_6, if_pos (by omega), kyp_6, if_neg (by omega)])
    · have hh : hg (tn 9 a tr_0 tr_0) = 1 + max (hg a) (hg tr_0) := hg_tn _ _ _ _
      have hz : pz (tn 9 a tr_0 tr_0) = 1 + pz a := by
        rw [pz_tn (by omega)]
        simp [tr_0, pz]
      have za := pz_0 a
      have va : ∀ v, vin v a → v < 6 := fun v q => h6 v (Or.inr (Or.inl q))
      have IA := ih (hg a) (by omega) a rfl ha va
      have main : ∀ w, w ≠ 3 → FEw X d h0 Q E w (tn 9 a tr_0 tr_0) := by
        intro w hw p s0 σ Sx T ls hls B hE p0 p1 S ky hs h3 h5 L K
        rw [tkf_9, if_neg hw, List.length_cons] at p1
        rw [kyp_9, if_neg hw] at ky
        rw [stf_9, if_neg hw] at S K
        refine FE_w (e := tn 9 a tr_0 tr_0) hls B hs (by omega) h5 h6 L S (fun C => ?_) K
        have Sc := (ST_sp S).1
        rw [List.length_cons, List.length_append, List.length_singleton] at C
        have hk : mi_sE σ 8 p = 1818850164 := by rw [hE]; exact ky.1
        have C0 := B.1.2.2.1
        refine RS B Sc (by omega) (ft6_List (d := d + 8) p0 (by omega) C0.2.2.2 C0.1 hk) (fun σ' q => ?_)
        rw [q]
        have Sc1 := (ST_c Sc).2.2
        refine FE_nil IA B hE (by omega) (by omega) (ST_sp Sc1).1 ky.2 (by omega) (by omega) (by omega) (fun S1 T1 σ1 R => ?_)
        obtain ⟨f1, f2, f3, f4⟩ := FR_f R
        have Sc2 := ST_X R.2.2.1 (ST_sp Sc1).2
        have B1 := FB_R B R
        have C1 := B1.1.2.2.1
        obtain ⟨S3, T3, R3⟩ := FR_9 B (by omega) R va
        refine RS B1 Sc2 (by omega) (ft7 (d := d + 10) (fo_useList (d := d + 7) p0 (by rw [f2]; omega) C1.2.2.2 C1.1 (by rw [f1]; exact hk) (by omega) (by omega) (by omega))) (fun σ' q => ?_)
        have := C S3 T3 σ' (by rw [q, hz]; exact R3)
        rw [show s0 + 1 + ((stf 3 0 (p + 1) a).length : Int) + 1 = s0 + (((stf 3 0 (p + 1) a).length + 1 + 1 : Nat) : Int) by omega]
        exact this
      refine FE_of (fun w => ?_)
      by_cases hw : w = 3
      · exact FEw_par (main 0 (by omega)) (by omega) (fun p => by rw [stf_9, if_pos hw, stf_9, if_neg (by omega)]; rfl) (by rw [tkf_9, if_pos hw, tkf_9, if_neg (by omega)]) (fun p => by rw [kyp_9, if_pos hw, kyp_9, if_neg (by omega)])
      · exact main w hw
end FE
