/-! ===== every type's steps: the node that stands for it ===== -/
def FE (X : mi_X) (d : Nat) (h0 : mi_H) (Q : mi_Z → Prop) (E : Int → Int64) (e : tr) : Prop := ∀ (w : Nat) (p s0 : Int) (σ : mi_Sg) (Sx : Int → Prop) (T : Int → tr) (ls : List tr), (w ≠ 0 → ls = []) → FB Sx T σ → mi_sE σ 8 = E → 0 ≤ p → p + (tkf w e).length ≤ mi_sF σ 3 7 → ST σ s0 (stf w ls.length p e) → kyp E w p e → (ls.length : Int) ≤ mi_sF σ 48 7 → mi_sF σ 48 7 + pz e ≤ 300 → mi_sF σ 9 8 + pz e + ls.length ≤ 512 → LTs σ T ls → (∀ S1 T1 σ1, FR Sx T σ S1 T1 σ1 ls.length (arr ls e) (pz e + ls.length) → RH X d h0 Q (s0 + (stf w ls.length p e).length) σ1) → RH X d h0 Q s0 σ
section FE
variable {X : mi_X} {d : Nat} {h0 : mi_H} {Q : mi_Z → Prop} {Sx : Int → Prop} {T : Int → tr} {σ : mi_Sg} {s0 p : Int} {E : Int → Int64} {w : Nat}
theorem FE_nil {e : tr} (h : FE X d h0 Q E e) (B : FB Sx T σ) (hE : mi_sE σ 8 = E) (p0 : 0 ≤ p) (p1 : p + (tkf w e).length ≤ mi_sF σ 3 7) (S : ST σ s0 (stf w 0 p e)) (ky : kyp E w p e) (hv : 0 ≤ mi_sF σ 48 7) (h3 : mi_sF σ 48 7 + pz e ≤ 300) (h5 : mi_sF σ 9 8 + pz e ≤ 512) (K : ∀ S1 T1 σ1, FR Sx T σ S1 T1 σ1 0 e (pz e) → RH X d h0 Q (s0 + (stf w 0 p e).length) σ1) : RH X d h0 Q s0 σ := by
  refine h w p s0 σ Sx T [] (fun _ => rfl) B hE p0 p1 S ky hv h3 (by simpa using h5) (fun i a q => by simp at q) (fun S1 T1 σ1 R => ?_)
  rw [show pz e + (([] : List tr).length : Int) = pz e by simp] at R
  exact K S1 T1 σ1 R
/-- from the frames of what was done -/
theorem FR_f {S1 : Int → Prop} {T1 : Int → tr} {σ1 : mi_Sg} {k r : Int} {e : tr} (R : FR Sx T σ S1 T1 σ1 k e r) : mi_sE σ1 8 = mi_sE σ 8 ∧ mi_sF σ1 3 7 = mi_sF σ 3 7 ∧ mi_sF σ1 48 7 = mi_sF σ 48 7 - k + 1 ∧ mi_sF σ1 9 8 ≤ mi_sF σ 9 8 + r := by
  obtain ⟨r1, r2, r3, r4, r5, r6, r7, r8, r9, r10, r11⟩ := R
  refine ⟨?_, r3.1.2.2 3 7 (by decide), r6, r9⟩
  funext i
  unfold mi_sE
  rw [r3.1.1]
theorem FR_cg {S1 : Int → Prop} {T1 : Int → tr} {σ1 σ2 : mi_Sg} {k r : Int} {e : tr} (R : FR Sx T σ S1 T1 σ1 k e r) (h : σ2 = σ1) : FR Sx T σ S1 T1 σ2 k e r := by
  rw [h]; exact R
/-- a letter -/
theorem FE_var {v : Nat} {l : List (Int × Int × Int)} (B : FB Sx T σ) (hE : mi_sE σ 8 = E) (p0 : 0 ≤ p) (p1 : p < mi_sF σ 3 7) (S : ST σ s0 ((5, p, 0) :: l)) (ky : E p = ltk v) (h6 : v < 6) (hv : 0 ≤ mi_sF σ 48 7) (h3 : mi_sF σ 48 7 < 300) (h5 : mi_sF σ 9 8 < 512) (K : ∀ S1 T1 σ1, FR Sx T σ S1 T1 σ1 0 (.var v) 1 → RH X d h0 Q (s0 + 1) σ1) : RH X d h0 Q s0 σ := by
  obtain ⟨C, V, -, b0, bu⟩ := id B
  have hv6 : (0 : Int) ≤ v ∧ (v : Int) < 6 := by omega
  have hk : mi_sE σ 8 p = ltk v := by rw [hE]; exact ky
  by_cases hz : mi_sA σ 49 (v : Int) = 0
  · obtain ⟨m1, m2⟩ := FC_mark C b0 (by omega) hv6 hz
    have e49 : mi_sA (mi_uA (ty_mk σ 4 0 0 0) 49 (v : Int) (mi_sF σ 9 8)) 49 (v : Int) = mi_sF σ 9 8 := by
      rw [mi_AA, if_pos ⟨rfl, rfl⟩]
    have R := FR_put (k := 0) (e := .var v) (room := 1) (nd := mi_sF σ 9 8) m1 m2 (fun n q => Or.inl q) (fun n q0 q1 => if_neg (by omega)) V (by omega) (by omega) (by rw [Int.sub_zero]; rfl) (fun i => by
      rw [mi_AA, if_neg (fun q => absurd q.1 (by decide))]
      exact ty_mk_F.2.1 51 i (by decide)) (Or.inr rfl) (by
      rw [if_pos rfl]
      show _ = mkv _ v
      unfold mkv
      rw [e49]) (by show mi_sF σ 9 8 + 1 ≤ _; omega) (fun u hu => by
      unfold vin at hu
      subst hu
      rw [e49]
      omega) (fun n q => q.imp id (fun q => by omega))
    exact RS B S (by omega) (ft5 (d := d + 10) (fo_useMark0 (d := d + 7) p0 p1 C.2.2.1.2.2.2 hv6 hk hv h3 hz C.2.2.1.2.2.1 h5)) (fun σ' q => K _ _ σ' (FR_cg R q))
  · obtain ⟨q1, q2⟩ := (C.2.2.2.1 v hv6.1 hv6.2).resolve_left hz
    have qr := C.1.2 _ q1
    have hu := C.1.1
    have R := FR_put (Sx' := Sx) (T' := T) (σ1 := σ) (k := 0) (e := .var v) (room := 1) (nd := mi_sA σ 49 (v : Int)) C (FX_v sg_Af_rf) (fun n q => q) (fun n _ _ => rfl) V (by omega) (by omega) (by omega) (fun i => rfl) q1 (by
      rw [(qr.2.2.2.2.1 (Or.inr q2)).1]
      rfl) (by omega) (fun u hu => by
      unfold vin at hu
      subst hu
      exact hz) (fun n q => Or.inl q)
    exact RS B S (by omega) (ft5 (d := d + 10) (fo_useMark1 (d := d + 7) p0 p1 C.2.2.1.2.2.2 hv6 hk hv h3 (by omega))) (fun σ' q => K _ _ σ' (FR_cg R q))
/-- int and bool -/
theorem FE_ib {l : List (Int × Int × Int)} {nd : Int} {e : tr} (B : FB Sx T σ) (hE : mi_sE σ 8 = E) (p0 : 0 ≤ p) (p1 : p < mi_sF σ 3 7) (S : ST σ s0 ((6, p, 0) :: (7, p, 0) :: l)) (ky : (nd = 1 ∧ e = tn 1 tr_0 tr_0 tr_0 ∧ E p = 6909556) ∨ (nd = 2 ∧ e = tn 2 tr_0 tr_0 tr_0 ∧ E p = 1651470188)) (hv : 0 ≤ mi_sF σ 48 7) (h3 : mi_sF σ 48 7 < 300) (K : ∀ S1 T1 σ1, FR Sx T σ S1 T1 σ1 0 e 1 → RH X d h0 Q (s0 + 1 + 1) σ1) : RH X d h0 Q s0 σ := by
  obtain ⟨C, V, ⟨⟨b1, b2⟩, b3, b4⟩, b0, bu⟩ := id B
  have S1 := (ST_c S).2.2
  rcases ky with ⟨rfl, rfl, k3⟩ | ⟨rfl, rfl, k3⟩
  · have hk : mi_sE σ 8 p = 6909556 := by rw [hE]; exact k3
    have R := FR_put (Sx' := Sx) (T' := T) (σ1 := σ) (k := 0) (e := tn 1 tr_0 tr_0 tr_0) (room := 1) (nd := 1) C (FX_v sg_Af_rf) (fun n q => q) (fun n _ _ => rfl) V (by omega) (by omega) (by omega) (fun i => rfl) b1 b2 (by omega) (fun u hu => by
      rcases hu with hu | hu | hu | hu <;> cases hu) (fun n q => Or.inl q)
    refine RS B S (by omega) (ft6_Int (d := d + 8) p0 p1 C.2.2.1.2.2.2 C.2.2.1.1 hk) (fun σ' q => ?_)
    rw [q]
    exact RS B S1 (by omega) (ft7 (d := d + 10) (fo_useInt (d := d + 7) p0 p1 C.2.2.1.2.2.2 C.2.2.1.1 hk hv h3)) (fun σ' q => K _ _ σ' (FR_cg R q))
  · have hk : mi_sE σ 8 p = 1651470188 := by rw [hE]; exact k3
    have R := FR_put (Sx' := Sx) (T' := T) (σ1 := σ) (k := 0) (e := tn 2 tr_0 tr_0 tr_0) (room := 1) (nd := 2) C (FX_v sg_Af_rf) (fun n q => q) (fun n _ _ => rfl) V (by omega) (by omega) (by omega) (fun i => rfl) b3 b4 (by omega) (fun u hu => by
      rcases hu with hu | hu | hu | hu <;> cases hu) (fun n q => Or.inl q)
    refine RS B S (by omega) (ft6_Bool (d := d + 8) p0 p1 C.2.2.1.2.2.2 C.2.2.1.1 hk) (fun σ' q => ?_)
    rw [q]
    exact RS B S1 (by omega) (ft7 (d := d + 10) (fo_useBool (d := d + 7) p0 p1 C.2.2.1.2.2.2 C.2.2.1.1 hk hv h3)) (fun σ' q => K _ _ σ' (FR_cg R q))
/-- a node over what is on top -/
theorem FR_9 {S1 : Int → Prop} {T1 : Int → tr} {σ1 : mi_Sg} {a : tr} {r : Int} (B : FB Sx T σ) (hv : 0 ≤ mi_sF σ 48 7) (R : FR Sx T σ S1 T1 σ1 0 a r) (h6 : ∀ v, vin v a → v < 6) : ∃ S2 T2, FR Sx T σ S2 T2 (mi_uF (mi_uA (ty_mk (mi_uF σ1 48 7 (mi_sF σ1 48 7 - 1)) 9 (mi_sA σ1 51 (mi_sF σ1 48 7 - 1)) 0 0) 51 (mi_sF σ1 48 7 - 1) (mi_sF σ1 9 8)) 48 7 (mi_sF σ1 48 7 - 1 + 1)) 0 (tn 9 a tr_0 tr_0) (1 + r) := by
  have B1 := FB_R B R
  obtain ⟨r1, r2, r3, r4, r5, r6, r7, r8, r9, r10, r11⟩ := id R
  rw [Int.sub_zero] at r6 r7 r8
  have F : sg_Af [51] [(48, 7)] σ1 (mi_uF σ1 48 7 (mi_sF σ1 48 7 - 1)) := sg_Af_F sg_Af_rf (by decide)
  have ht : mi_sF σ1 48 7 - 1 = mi_sF σ 48 7 := by omega
  have hS := r2 (mi_sF σ1 48 7 - 1) (by omega) (by omega)
  have hb := (r1.1.2 _ hS).1
  obtain ⟨d1, d2⟩ := FC_mk (g := 9) (a := mi_sA σ1 51 (mi_sF σ1 48 7 - 1)) (b := 0) (c := 0) (FC_v r1 F) B1.2.2.2.1 (by have := B1.2.2.2.2; show 0 < mi_sF σ1 9 8; omega) (Or.inr (Or.inr rfl)) hS (by rw [if_pos rfl]) rfl
  have e49 : mi_sA (ty_mk (mi_uF σ1 48 7 (mi_sF σ1 48 7 - 1)) 9 (mi_sA σ1 51 (mi_sF σ1 48 7 - 1)) 0 0) 49 = mi_sA σ1 49 := sg_Af_Ak (ty_mk_F (σ := mi_uF σ1 48 7 (mi_sF σ1 48 7 - 1))) (by decide)
  have R2 := FR_put (Sx := S1) (T := T1) (σ := σ1) (k := 1) (e := tn 9 a tr_0 tr_0) (room := 1) (nd := mi_sF σ1 9 8) d1 (FX_tr (FX_v F) d2) (fun n q => Or.inl q) (fun n q0 q1 => if_neg (by show ¬ n = mi_sF σ1 9 8; omega)) r2 (by omega) (by omega) rfl (fun i => ty_mk_F.2.1 51 i (by decide)) (Or.inr rfl) (by
    refine (if_pos rfl).trans ?_
    have mk : mkv (ty_mk (mi_uF σ1 48 7 (mi_sF σ1 48 7 - 1)) 9 (mi_sA σ1 51 (mi_sF σ1 48 7 - 1)) 0 0) = mkv σ1 := by
      funext v
      unfold mkv
      rw [e49]
    rw [mk, sb_tn, ht, r8, r1.1.1]
    rfl) (by show mi_sF σ1 9 8 + 1 ≤ _; omega) (fun v hv => by
    rw [e49]
    rcases hv with hv | hv | hv | hv
    · cases hv
    · exact r10 v hv
    · cases hv
    · cases hv) (fun n q => q.imp id (fun q => by have q' : n = mi_sF σ1 9 8 := q; omega))
  exact ⟨_, _, FR_tr (by omega) R R2 (by omega)⟩
/-- a node over the two on top -/
theorem FR_5 {S1 S2 : Int → Prop} {T1 T2 : Int → tr} {σ1 σ2 : mi_Sg} {a b : tr} {r r' : Int} (B : FB Sx T σ) (hv : 0 ≤ mi_sF σ 48 7) (R : FR Sx T σ S1 T1 σ1 0 a r) (R' : FR S1 T1 σ1 S2 T2 σ2 0 b r') (h6 : ∀ v, vin v a → v < 6) : ∃ S3 T3, FR Sx T σ S3 T3 (mi_uF (mi_uA (ty_mk (mi_uF (mi_uF σ2 48 7 (mi_sF σ2 48 7 - 1)) 48 7 (mi_sF σ2 48 7 - 1 - 1)) 5 (mi_sA σ2 51 (mi_sF σ2 48 7 - 1 - 1)) (mi_sA σ2 51 (mi_sF σ2 48 7 - 1)) 0) 51 (mi_sF σ2 48 7 - 1 - 1) (mi_sF σ2 9 8)) 48 7 (mi_sF σ2 48 7 - 1 - 1 + 1)) 0 (tn 5 a b tr_0) (1 + r + r') := by
  have B1 := FB_R B R
  have B2 := FB_R B1 R'
  obtain ⟨r1, r2, r3, r4, r5, r6, r7, r8, r9, r10, r11⟩ := id R
  obtain ⟨s1, s2, s3, s4, s5, s6, s7, s8, s9, s10, s11⟩ := id R'
  rw [Int.sub_zero] at r6 r7 r8 s6 s7 s8
  have F : sg_Af [51] [(48, 7)] σ2 (mi_uF (mi_uF σ2 48 7 (mi_sF σ2 48 7 - 1)) 48 7 (mi_sF σ2 48 7 - 1 - 1)) := sg_Af_F (sg_Af_F sg_Af_rf (by decide)) (by decide)
  have ht : mi_sF σ2 48 7 - 1 = mi_sF σ1 48 7 := by omega
  have ht2 : mi_sF σ2 48 7 - 1 - 1 = mi_sF σ 48 7 := by omega
  have hSb := s2 (mi_sF σ2 48 7 - 1) (by omega) (by omega)
  have hSa := s2 (mi_sF σ2 48 7 - 1 - 1) (by omega) (by omega)
  have hS1 := r2 (mi_sF σ 48 7) (by omega) (by omega)
  have ka : T2 (mi_sA σ2 51 (mi_sF σ2 48 7 - 1 - 1)) = sb (mkv σ2) a ∧ ∀ v, vin v a → mi_sA σ2 49 (v : Int) ≠ 0 := by
    rw [ht2, s7 (mi_sF σ 48 7) (by omega) (by omega)]
    have hb := (r1.1.2 _ hS1).1
    exact FR_keep r8 r10 h6 s3 (s5 _ (by omega) hb.2)
  obtain ⟨d1, d2⟩ := FC_mk (g := 5) (a := mi_sA σ2 51 (mi_sF σ2 48 7 - 1 - 1)) (b := mi_sA σ2 51 (mi_sF σ2 48 7 - 1)) (c := 0) (FC_v s1 F) B2.2.2.2.1 (by have := B2.2.2.2.2; show 0 < mi_sF σ2 9 8; omega) (Or.inl rfl) hSa (by rw [if_neg (by omega)]; exact hSb) rfl
  have e49 : mi_sA (ty_mk (mi_uF (mi_uF σ2 48 7 (mi_sF σ2 48 7 - 1)) 48 7 (mi_sF σ2 48 7 - 1 - 1)) 5 (mi_sA σ2 51 (mi_sF σ2 48 7 - 1 - 1)) (mi_sA σ2 51 (mi_sF σ2 48 7 - 1)) 0) 49 = mi_sA σ2 49 := sg_Af_Ak (ty_mk_F (σ := mi_uF (mi_uF σ2 48 7 (mi_sF σ2 48 7 - 1)) 48 7 (mi_sF σ2 48 7 - 1 - 1))) (by decide)
  have R2 := FR_put (Sx := S2) (T := T2) (σ := σ2) (k := 2) (e := tn 5 a b tr_0) (room := 1) (nd := mi_sF σ2 9 8) d1 (FX_tr (FX_v F) d2) (fun n q => Or.inl q) (fun n q0 q1 => if_neg (by show ¬ n = mi_sF σ2 9 8; omega)) s2 (by omega) (by omega) (by show mi_sF σ2 48 7 - 1 - 1 = _; omega) (fun i => ty_mk_F.2.1 51 i (by decide)) (Or.inr rfl) (by
    refine (if_pos rfl).trans ?_
    have mk : mkv (ty_mk (mi_uF (mi_uF σ2 48 7 (mi_sF σ2 48 7 - 1)) 48 7 (mi_sF σ2 48 7 - 1 - 1)) 5 (mi_sA σ2 51 (mi_sF σ2 48 7 - 1 - 1)) (mi_sA σ2 51 (mi_sF σ2 48 7 - 1)) 0) = mkv σ2 := by
      funext v
      unfold mkv
      rw [e49]
    rw [mk, sb_tn, ka.1, ht, s8, s1.1.1]
    rfl) (by show mi_sF σ2 9 8 + 1 ≤ _; omega) (fun v hv => by
    rw [e49]
    rcases hv with hv | hv | hv | hv
    · cases hv
    · exact ka.2 v hv
    · exact s10 v hv
    · cases hv) (fun n q => q.imp id (fun q => by have q' : n = mi_sF σ2 9 8 := q; omega))
  exact ⟨_, _, FR_tr (by omega) R (FR_tr (k := 0 + 1) (by omega) R' R2 rfl) (by omega)⟩
end FE
