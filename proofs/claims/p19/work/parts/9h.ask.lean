/-! ===== measures, write, ask, between calls ===== -/
section QQ
variable {X : mi_X} {d : Nat} {σ σ1 σ2 σ3 : mi_Sg} {ds : List (Int64 × tr)} {t : tr} {h h3 : mi_H} {k : Int}
theorem PQ_s {ks : List Nat} {fs : List (Nat × Nat)} (S : ty_H h σ) (S3 : ty_H h3 σ3) (P : PI σ ds) (F : sg_Af ks fs σ σ3) (h1 : ∀ k ∈ ks, k ∈ qfA) (h2 : ∀ k ∈ fs, k ∈ qfF) (h0 : 10 ∉ ks ∧ 11 ∉ ks ∧ 12 ∉ ks) (h5 : (0, 10) ∉ fs) (h8 : (9, 8) ∉ fs) (Z : ty_Z σ3) (hk : mi_sF σ3 9 11 ≤ mi_sF σ 9 11 + k) : PQ σ σ3 ds k := by
  have Q := QF_s0 F h1 h2 h0
  exact ⟨PI_q P Q (F.2.2 9 8 h8) Z (ty_H_u S).2.2.2 (ty_H_u S3).2.2.2 (ty_H_f S).1 ((F.2.2 0 10 h5).trans P.2.2.2.2), Q, F.2.2 9 8 h8, hk⟩
theorem q_parts {a : Nat} {ka : Int64} (P : PI σ ds) (ha : ds[a]? = some (ka, t)) (hp : pz t ≤ 100000) (hr : mi_sF σ 9 11 < 99998000) (hd : ds.length ≤ 24) : ty_Ci X (d + 4) mi_M10 [(0, .ref 0), (1, .int (Int32.ofInt (a : Int))), (2, .int (Int32.ofInt 0))] σ (fun x σ' => x = pz t ∧ PQ σ σ' ds 1 ∧ PS σ σ') := by
  refine ty_C_S fun h hS => ?_
  obtain ⟨⟨Sx, T, C, hm⟩, kbb, n14, f9, f0⟩ := id P
  obtain ⟨a1, a2, a3, a4, a5, a6⟩ := C.2.2.2.2.2 a _ ha
  have a4' : T (mi_sA σ 12 (mi_sA σ 24 (a : Int))) = t := a4
  have la := (List.getElem?_eq_some_iff.mp ha).1
  have Hp : ty_T σ (fun n => Sx n ∧ pz (T n) ≤ 100000) T := ty_T_sub C.1 (fun e => pz e ≤ 100000) fun n k hn hw k0 k1 hk => by
    have z := pz_node C.1 hn
    have z0 := pz_0 (T (ty_K' σ n 0))
    have z1 := pz_0 (T (ty_K' σ n 1))
    have z2 := pz_0 (T (ty_K' σ n 2))
    obtain rfl | rfl | rfl : k = 0 ∨ k = 1 ∨ k = 2 := by omega
    · omega
    · omega
    · omega
  refine tl_measure0 (d := d + 1) (by omega) (by omega) (by omega) (ty_Ci_s (ty_partsOf (d := d) C.2.1 (by omega) Hp a2.1 a2.2 ⟨a3, by rw [a4']; exact hp⟩ (fun n hn => hn.2)) fun x σ' h' S' q => ?_)
  obtain ⟨ex, M⟩ := q
  exact ⟨by rw [ex, a4'], PQ_s hS S' P M.1 (by decide) (by decide) (by decide) (by decide) (by decide) M.2.2 (by have := M.2.1; omega), M.1.2.2 52 5 (by decide), fun i => M.1.2.1 53 i (by decide)⟩
theorem q_rank {a : Nat} {ka : Int64} (P : PI σ ds) (ha : ds[a]? = some (ka, t)) (hp : pz t ≤ 100000) (hr : mi_sF σ 9 11 < 99998000) (hd : ds.length ≤ 24) : ty_Ci X (d + 4) mi_M10 [(0, .ref 0), (1, .int (Int32.ofInt (a : Int))), (2, .int (Int32.ofInt 2))] σ (fun x σ' => x = rk t ∧ PQ σ σ' ds 1 ∧ PS σ σ') := by
  refine ty_C_S fun h hS => ?_
  obtain ⟨⟨Sx, T, C, hm⟩, kbb, n14, f9, f0⟩ := id P
  obtain ⟨a1, a2, a3, a4, a5, a6⟩ := C.2.2.2.2.2 a _ ha
  have a4' : T (mi_sA σ 12 (mi_sA σ 24 (a : Int))) = t := a4
  have la := (List.getElem?_eq_some_iff.mp ha).1
  have Hp : ty_T σ (fun n => Sx n ∧ pz (T n) ≤ 100000) T := ty_T_sub C.1 (fun e => pz e ≤ 100000) fun n k hn hw k0 k1 hk => by
    have z := pz_node C.1 hn
    have z0 := pz_0 (T (ty_K' σ n 0))
    have z1 := pz_0 (T (ty_K' σ n 1))
    have z2 := pz_0 (T (ty_K' σ n 2))
    obtain rfl | rfl | rfl : k = 0 ∨ k = 1 ∨ k = 2 := by omega
    · omega
    · omega
    · omega
  refine tl_measure2 (d := d + 1) (by omega) (by omega) (by omega) (ty_Ci_s (ty_rankOf (d := d) C.2.1 (by omega) Hp a2.1 a2.2 ⟨a3, by rw [a4']; exact hp⟩ (fun n hn => hn.2)) fun x σ' h' S' q => ?_)
  obtain ⟨ex, M⟩ := q
  exact ⟨by rw [ex, a4'], PQ_s hS S' P M.1 (by decide) (by decide) (by decide) (by decide) (by decide) M.2.2 (by have := M.2.1; omega), M.1.2.2 52 5 (by decide), fun i => M.1.2.1 53 i (by decide)⟩
theorem q_marks {a : Nat} {ka : Int64} (P : PI σ ds) (ha : ds[a]? = some (ka, t)) (hr : mi_sF σ 9 11 < 99998000) (hd : ds.length ≤ 24) : ty_Ci X (d + 4) mi_M10 [(0, .ref 0), (1, .int (Int32.ofInt (a : Int))), (2, .int (Int32.ofInt 1))] σ (fun x σ' => x = nv t ∧ PQ σ σ' ds 1 ∧ PS σ σ') := by
  refine ty_C_S fun h hS => ?_
  obtain ⟨⟨Sx, T, C, hm⟩, kbb, n14, f9, f0⟩ := id P
  obtain ⟨a1, a2, a3, a4, a5, a6⟩ := C.2.2.2.2.2 a _ ha
  have a4' : T (mi_sA σ 12 (mi_sA σ 24 (a : Int))) = t := a4
  have la := (List.getElem?_eq_some_iff.mp ha).1
  have HV := ty_T_vs C.1 (fun v => vin v t)
  refine tl_measure1 (d := d + 1) (by omega) (by omega) (by omega) (ty_Ci_s (ty_marksOf (d := d) C.2.1 (by omega) HV a2.1 a2.2 ⟨a3, fun v hv => by rw [a4'] at hv; exact hv⟩) fun x σ' h' S' q => ?_)
  obtain ⟨ex, E⟩ := q
  have M := ga_E_M E C.2.1
  have nvv := ga_nv E HV (by rw [a4']; exact a5) ⟨a3, fun v hv => by rw [a4'] at hv; exact hv⟩ (fun n hn v hv => by rw [a4']; exact hn.2 v hv) (by omega)
  exact ⟨by rw [ex, nvv, a4'], PQ_s hS S' P M.1 (by decide) (by decide) (by decide) (by decide) (by decide) M.2.2 (by have := M.2.1; omega), M.1.2.2 52 5 (by decide), fun i => M.1.2.1 53 i (by decide)⟩
theorem q_write {a : Nat} {ka : Int64} (P : PI σ ds) (ha : ds[a]? = some (ka, t)) (hl : wl t ≤ 400) (hn : nv t ≤ 26) (hr : mi_sF σ 9 11 < 99998000) (hd : ds.length ≤ 24) : ty_Ci X (d + 9) mi_M15 [(0, .ref 0), (1, .int (Int32.ofInt (a : Int)))] σ (fun x σ' => x = wl t ∧ PQ σ σ' ds 1 ∧ rwl σ' 53 5 (txt t)) := by
  refine ty_C_S fun h hS => ?_
  obtain ⟨⟨Sx, T, C, hm⟩, kbb, n14, f9, f0⟩ := id P
  obtain ⟨a1, a2, a3, a4, a5, a6⟩ := C.2.2.2.2.2 a _ ha
  have a4' : T (mi_sA σ 12 (mi_sA σ 24 (a : Int))) = t := a4
  have la := (List.getElem?_eq_some_iff.mp ha).1
  have G7 : tg7 σ Sx := fun n hn => ty_T_tag C.1 hn (C.2.2.1 n hn)
  refine tl_write (d := d + 7) (by omega) (by omega) (by omega) (ty_Ci_s (wr_put1 (d := d) C.2.1 (by omega) C.1 G7 kbb a2.1 a2.2 a3 (by rw [a4']; exact hl) (by rw [a4']; unfold nv vl at hn; omega)) fun x σ' h' S' q => ?_)
  obtain ⟨ex, F, fr, Z, pp⟩ := q
  rw [a4'] at pp
  refine ⟨ex, ?_, PQ_s hS S' P F (by decide) (by decide) (by decide) (by decide) (by decide) Z (by omega), pp⟩
  rw [pp.1, ← txt_wl]
  rfl
theorem QF_tf {σ σ' : mi_Sg} (t : tf σ σ') : QF σ σ' := ⟨fun k i h => t.1 k i (fun q => h (by simp only [List.mem_cons, List.not_mem_nil, or_false] at q; rcases q with rfl | rfl | rfl <;> decide)), fun k j h => t.2.1 k j (fun q => h (by rw [List.mem_singleton] at q; rw [q]; decide)), fun k i h => t.2.2.1 k i h, fun n _ _ => ⟨t.1 10 n (by decide), t.1 12 n (by decide), fun _ _ _ => t.1 11 _ (by decide)⟩⟩
theorem QF_uA {σ σ' : mi_Sg} {k : Nat} {i x : Int} (p : QF σ σ') (h : k ∈ qfA) (h' : k ≠ 10 ∧ k ≠ 11 ∧ k ≠ 12) : QF σ (mi_uA σ' k i x) := ⟨fun k' i' q => by
  rw [mi_AA, if_neg (fun z => q (by rw [z.1]; exact h))]
  exact p.1 k' i' q, p.2.1, p.2.2.1, fun n n0 n1 => by
  obtain ⟨a, b, c⟩ := p.2.2.2 n n0 n1
  refine ⟨?_, ?_, fun k2 k0 k1 => ?_⟩
  · rw [mi_AA, if_neg (fun z => h'.1 z.1.symm)]; exact a
  · rw [mi_AA, if_neg (fun z => h'.2.2 z.1.symm)]; exact b
  · have := c k2 k0 k1
    unfold ty_k at this ⊢
    rw [mi_AA, if_neg (fun z => h'.2.1 z.1.symm)]; exact this⟩
theorem PQ_end {σ3 : mi_Sg} (s0 : mi_sA σ 12 0 = 0) (s13 : 13 ≤ mi_sF σ 9 9) (P : PI σ ds) (Q : QF σ σ3) (z0 : mi_sA σ3 12 0 = 0) (Z : ty_Z σ3) (h8 : mi_sF σ 9 8 ≤ mi_sF σ3 9 8) (h0 : mi_sF σ3 0 10 = 0) (hk : mi_sF σ3 9 11 ≤ mi_sF σ 9 11 + k) : PQ σ (mi_uF σ3 9 8 (mi_sF σ3 9 9)) ds k := by
  have Q' : QF σ (mi_uF σ3 9 8 (mi_sF σ3 9 9)) := QF_uF Q (by decide)
  have e9 := QF_9 Q
  have f9 : mi_sF σ 9 9 = mi_sF σ 9 8 := P.2.2.2.1
  have e8 : mi_sF (mi_uF σ3 9 8 (mi_sF σ3 9 9)) 9 8 = mi_sF σ 9 8 := by
    rw [mi_FF, if_pos ⟨rfl, rfl⟩]; omega
  obtain ⟨z1, z2, z3, z4, z5⟩ := Z
  obtain ⟨Sx, T, C, hm⟩ := P.1
  have Zf : ty_Z (mi_uF σ3 9 8 (mi_sF σ3 9 9)) := by
    refine ⟨z1, fun n k n0 n1 k0 k1 => ?_, fun n n0 n1 => ?_, z4, z5⟩
    · rw [e8] at n1 ⊢
      show 0 ≤ ty_k σ3 n k ∧ ty_k σ3 n k < _
      rw [(Q.2.2.2 n n0 (by omega)).2.2 k k0 k1]
      exact C.2.1.2.1 n k n0 n1 k0 k1
    · rw [e8] at n1
      exact z3 n n0 (by omega)
  exact ⟨PI_q P Q' e8 Zf s0 z0 s13 h0, Q', e8, hk⟩
/-- what is found for the name that is asked -/
def AQ (σ : mi_Sg) (ds : List (Int64 × tr)) (t : tr) (σ3 : mi_Sg) : Prop := ∃ (S : Int → Prop) (T : Int → tr), CI S T σ3 ds ∧ S (mi_sA σ3 41 0) ∧ REN t (T (mi_sA σ3 41 0)) ∧ QF σ σ3 ∧ (mi_sF σ3 2 0 = 0 ∧ mi_sF σ3 34 7 = 1 ∧ mi_sF σ3 0 10 = 0 ∧ kb σ3) ∧ mi_sF σ 9 8 ≤ mi_sF σ3 9 8 ∧ mi_sF σ3 9 11 = mi_sF σ 9 11 + 1
theorem q_ask {a : Nat} {c : Nat} (P : PI (mi_uF σ 0 10 0) ds) (B : BB σ) (ha : ds[a]? = some (tokY c, t)) (hc : c < 30) (hk : tokK c = 13) (tx : TX σ (flc [(0, c)])) (hd1 : ∀ (j : Nat) (q : Int64 × tr), j < a → ds[j]? = some q → q.1 ≠ tokY c) (hroom : mi_sF σ 9 8 + pz t ≤ 512) (hl : wl t ≤ 400) (hn : nv t ≤ 26) (hr : mi_sF σ 9 11 < 99998000) (hd : ds.length ≤ 24) : ty_Ci X (d + 14) mi_M3 [(0, .ref 0)] σ (fun x σ' => x = 0 ∧ PQ (mi_uF σ 0 10 0) σ' ds 3 ∧ rwl σ' 53 5 (txt t)) := by
  refine ty_C_S fun h hS => ?_
  obtain ⟨⟨Sx, T, C0, hm⟩, kbb, n14, f9, -⟩ := id P
  have C : CI Sx T σ ds := CI_s C0 ⟨⟨rfl, rfl⟩, rfl, rfl, rfl, rfl, rfl, rfl⟩
  have f9' : mi_sF σ 9 9 = mi_sF σ 9 8 := f9
  have n14' : mi_sF σ 17 14 = ds.length := n14
  have h13 := (ty_H_f hS).1
  have la := (List.getElem?_eq_some_iff.mp ha).1
  have hSt : ty_H h σ := hS
  have ok : okc [(0, c)] := hc
  have asc := flc_asc [(0, c)] ok
  have fl : (flc [(0, c)]).length ≤ 1200 := by
    show ([] ++ (tokB c ++ []) : List Int).length ≤ 1200
    have : ∀ q : Fin 30, (tokB q.val).length ≤ 10 := by decide +kernel
    have := this ⟨c, hc⟩
    dsimp only at this
    simp
    omega
  refine tl_ask (d := d + 12) ?_
  rw [tx.1]
  have i1 : ∀ σ', (∀ i, mi_sA σ' 1 i = mi_sA σ 1 i) → tby σ' 0 (flc [(0, c)]) := fun σ' q i b hb => (q _).trans (tx.2 i b hb)
  refine ty_Cv_s (to_read (d := d + 1) (its := [(0, c)].map itc) (by omega) (by omega) (by show 1 < 299; omega) ⟨⟨by show 0 ≤ ((flc [(0, c)]).length : Int); omega, by show ((flc [(0, c)]).length : Int) ≤ 1200; omega⟩, fun i i0 i1' => ?_⟩ (lay_c (σ := mi_uF (mi_uF (mi_uF (mi_uF σ 2 0 0) 2 1 (-1)) 3 6 (flc [(0, c)]).length) 3 7 0) (fun j hj => B.2.1 j hj) [(0, c)] 0 ok (i1 _ fun i => rfl) (by show ((flc [(0, c)]).length : Int) = 0 + ((flc [(0, c)]).length : Int); omega))) fun σ1 h1 S1 Q1 => ?_
  · have i2 : i < ((flc [(0, c)]).length : Int) := i1'
    have hb := i1 (mi_uF (mi_uF (mi_uF (mi_uF σ 2 0 0) 2 1 (-1)) 3 6 (flc [(0, c)]).length) 3 7 0) (fun i => rfl) i.toNat _ (List.getElem?_eq_getElem (by omega))
    rw [show (0 : Int) + ((i.toNat : Nat) : Int) = i by omega] at hb
    rw [hb]
    exact asc _ (List.getElem_mem _)
  obtain ⟨tf1, n7, -, its, t18⟩ := Q1
  have n7' : mi_sF σ1 3 7 = 2 := n7
  have k0 : mi_sA σ1 5 0 = 13 := ((its 0 _ rfl).1).trans hk
  have y0 : mi_sE σ1 8 0 = tokY c := (its 0 _ rfl).2
  have k1 : mi_sA σ1 5 1 = 18 := t18
  have Qa : QF (mi_uF σ 0 10 0) (mi_uF (mi_uF (mi_uF (mi_uF σ 2 0 0) 2 1 (-1)) 3 6 (flc [(0, c)]).length) 3 7 0) := by
    refine ⟨fun k i _ => rfl, fun k j hk => ?_, fun k i _ => rfl, fun n _ _ => ⟨rfl, rfl, fun _ _ _ => rfl⟩⟩
    have nz : ∀ q ∈ qfF, ¬ (k = q.1 ∧ j = q.2) := fun q hq e => hk (by rw [e.1, e.2]; exact hq)
    rw [mi_FF, if_neg (nz (3, 7) (by decide)), mi_FF, if_neg (nz (3, 6) (by decide)), mi_FF, if_neg (nz (2, 1) (by decide)), mi_FF, if_neg (nz (2, 0) (by decide)), mi_FF, if_neg (nz (0, 10) (by decide))]
  have Qb : QF (mi_uF σ 0 10 0) σ1 := QF_tr Qa (QF_tf tf1)
  have f20 : mi_sF σ1 2 0 = 0 := by
    rw [tf1.2.1 2 0 (by decide), mi_FF, if_neg (by decide), mi_FF, if_neg (by decide), mi_FF, if_neg (by decide), mi_FF, if_pos ⟨rfl, rfl⟩]
  refine ty_Ci_s (pr_readQuestion (d := d + 2) f20 (by show mi_sF σ1 3 7 ≤ 301; omega) (fun i k hk => by
    show mi_sA σ1 5 _ = k
    match i, hk with
    | 0, hk => injection hk with hk; rw [← hk]; exact k0
    | 1, hk => injection hk with hk; rw [← hk]; exact k1
    | n + 2, hk => cases hk) (by show 2 ≤ mi_sF σ1 3 7; omega)) fun x σ2 h2 S2 Q2 => ?_
  obtain ⟨ex, F2, p3, p7, -, st⟩ := Q2
  subst ex
  have st0 := st 0 (21, 0, 0) rfl
  have p7' : mi_sF σ2 34 7 = 1 := p7
  have Qc : QF σ1 σ2 := by
    refine ⟨fun k i hk => F2.2.1 k i (fun q => hk (by simp only [List.mem_cons, List.not_mem_nil, or_false] at q; rcases q with rfl | rfl | rfl | rfl | rfl | rfl | rfl <;> decide)), fun k j hk => ?_, fun k i _ => by rw [sg_E F2 k]; rfl, fun n _ _ => ⟨F2.2.1 10 n (by decide), F2.2.1 12 n (by decide), fun _ _ _ => F2.2.1 11 _ (by decide)⟩⟩
    have nz : ∀ q ∈ qfF, ¬ (k = q.1 ∧ j = q.2) := fun q hq e => hk (by rw [e.1, e.2]; exact hq)
    rw [F2.2.2 k j (fun q => by simp only [List.mem_cons, List.not_mem_nil, or_false] at q; rcases q with q | q <;> (injection q with q1 q2; first | exact nz (34, 7) (by decide) ⟨q1, q2⟩ | exact nz (42, 3) (by decide) ⟨q1, q2⟩)), mi_FF, if_neg (nz (42, 3) (by decide)), mi_FF, if_neg (nz (34, 7) (by decide)), mi_FF, if_neg (nz (42, 2) (by decide)), mi_FF, if_neg (nz (0, 10) (by decide))]
  have Qd : QF (mi_uF σ 0 10 0) σ2 := QF_tr Qb Qc
  have ks12 : KS σ σ1 := by
    refine ⟨⟨?_, ?_⟩, ?_, ?_, ?_, ?_, ?_, ?_⟩
    · exact tf1.2.1 9 8 (by decide)
    · exact tf1.2.1 9 11 (by decide)
    · exact funext fun i => tf1.1 10 i (by decide)
    · exact funext fun i => tf1.1 11 i (by decide)
    · exact funext fun i => tf1.1 12 i (by decide)
    · exact funext fun i => tf1.1 13 i (by decide)
    · exact funext fun i => tf1.1 24 i (by decide)
    · exact funext fun i => tf1.2.2.1 23 i (by decide)
  have ks23 : KS (mi_uF (mi_uF (mi_uF (mi_uF σ1 0 10 0) 42 2 34) 34 7 0) 42 3 0) σ2 := KS_sg F2 (by decide) (by decide) (by decide)
  have ks2 : KS σ σ2 := KS_tr ks12 ks23
  have C2 : CI Sx T σ2 ds := CI_s C ks2
  have n142 : mi_sF σ2 17 14 = ds.length := (Qd.2.1 17 14 (by decide)).trans n14'
  have e99 : mi_sF σ2 9 9 = mi_sF σ 9 9 := Qd.2.1 9 9 (by decide)
  have e98 : mi_sF σ2 9 8 = mi_sF σ 9 8 := ks2.1.1
  have e911 : mi_sF σ2 9 11 = mi_sF σ 9 11 := ks2.1.2
  have f22 : mi_sF σ2 2 0 = 0 := by rw [F2.2.2 2 0 (by decide)]; exact f20
  have f010 : mi_sF σ2 0 10 = 0 := by rw [F2.2.2 0 10 (by decide)]; rfl
  have e37 : mi_sF σ2 3 7 = 2 := by rw [F2.2.2 3 7 (by decide)]; exact n7'
  have e80 : mi_sE σ2 8 0 = tokY c := by rw [sg_E F2 8]; exact y0
  have kb2 : kb σ2 := by
    obtain ⟨q1, q2, q3, q4, q5, q6, q7⟩ := kbb
    exact ⟨(Qd.2.1 17 12 (by decide)).trans q1, (Qd.2.2.1 18 0 (by decide)).trans q2, (Qd.2.2.1 18 1 (by decide)).trans q3, (Qd.2.2.1 18 2 (by decide)).trans q4, (Qd.1 19 0 (by decide)).trans q5, (Qd.1 19 1 (by decide)).trans q6, (Qd.1 19 2 (by decide)).trans q7⟩
  obtain ⟨a1, a2, a3, a4, a5, a6⟩ := C2.2.2.2.2.2 a _ ha
  have a4' : T (mi_sA σ2 12 (mi_sA σ2 24 (a : Int))) = t := a4
  have a6' : ∀ v, vin v t → mi_sA σ2 10 (v : Int) = 4 := a6
  have no3 : ∀ n, Sx n → mi_sA σ2 10 n ≠ 3 := fun n hn q => by
    have g := C2.1.2 n hn
    have tg : mi_sA σ2 10 = mi_sA σ 10 := ks2.2.1
    have := hm n hn n.toNat (by rw [(g.2.2.2.2.1 (Or.inl q)).1]; rfl)
    rw [show ((n.toNat : Nat) : Int) = n by omega] at this
    have this' : mi_sA σ 10 n = 4 := this
    rw [tg] at q
    omega
  have KR : KS σ2 (mi_uF (mi_uF (mi_uF (mi_uF (mi_uF σ2 43 6 34) 44 3 0) 43 7 (-1)) 43 9 0) 43 10 0) := ⟨⟨rfl, rfl⟩, rfl, rfl, rfl, rfl, rfl, rfl⟩
  have C3 : CI Sx T (mi_uF (mi_uF (mi_uF (mi_uF (mi_uF σ2 43 6 34) 44 3 0) 43 7 (-1)) 43 9 0) 43 10 0) ds := CI_s C2 KR
  have Qe : QF (mi_uF σ 0 10 0) (mi_uF (mi_uF (mi_uF (mi_uF (mi_uF σ2 43 6 34) 44 3 0) 43 7 (-1)) 43 9 0) 43 10 0) := QF_uF (QF_uF (QF_uF (QF_uF (QF_uF Qd (by decide)) (by decide)) (by decide)) (by decide)) (by decide)
  have pt := pz_0 t
  refine ty_Cv_s (run34_go (d := d + 1) (P := AQ (mi_uF σ 0 10 0) ds t) fun h0 => rq_expr (d := d + 1) (n := 0) (k := 21) (a := 0) (b := 0) (P := fun x σ' => ∃ h', ty_H h' σ' ∧ cp_Q 0 (mi_sA σ2 12 (mi_sA σ2 24 (a : Int))) T (mi_uF (mi_uF (mi_uF (mi_uF (mi_uF σ2 43 6 34) 44 3 0) 43 7 (-1)) 43 9 0) 43 10 0) x σ') (by omega) (by show 0 < mi_sF σ2 34 7; omega) (by show mi_sF σ2 34 7 ≤ 1024; omega) f22 st0.1 st0.2.1 st0.2.2 (by omega) (te_name (d := d + 11) (ck_name_ask (d := d + 8) (i := (a : Int)) (by omega) (by show 0 < mi_sF σ2 3 7; omega) (by show mi_sF σ2 3 7 ≤ 301; omega) (by show (0 : Int) ≤ 0; omega) (by show (0 : Int) ≤ 300; omega) (fun j j0 j1 => by have j1' : j < 0 := j1; omega) (by omega) (by show (a : Int) < mi_sF σ2 17 14; omega) (by show mi_sF σ2 17 14 ≤ 24; omega) (by show mi_sE σ2 23 (a : Int) = mi_sE σ2 8 0; rw [e80]; exact a1) (fun j j0 j1 => ?_) rfl (ty_Ci_s (ty_copy (d := d + 7) (Sx := Sx) (T := T) C3.2.1 (by show mi_sF σ2 9 11 < _; omega) C3.1 a2.1 a2.2 a3 (by show mi_sF σ2 9 8 + pz (T (mi_sA σ2 12 (mi_sA σ2 24 (a : Int)))) ≤ 512; rw [a4']; omega) (Or.inl rfl) ⟨by show 0 ≤ mi_sF σ2 9 9; omega, by show mi_sF σ2 9 9 ≤ mi_sF σ2 9 8; omega⟩ (fun n hn q => absurd q (no3 n hn))) (fun x σ' h' S' q => ⟨h', S', q⟩)))) (fun x σ' q => ?_) (fun x σ' q => ?_)) fun σ3 h3 S3 Q3 => ?_
  · show mi_sE σ2 23 j ≠ mi_sE σ2 8 0
    have hjl : j.toNat < ds.length := by omega
    have z := C2.2.2.2.2.2 j.toNat _ (List.getElem?_eq_getElem hjl)
    have hj : ((j.toNat : Nat) : Int) = j := by omega
    rw [hj] at z
    rw [z.1, e80]
    exact hd1 j.toNat _ (by omega) (List.getElem?_eq_getElem hjl)
  · obtain ⟨h', S', S4, T4, ν, X4, F4, -⟩ := q
    exact F4.2.2 34 7 (by decide)
  · obtain ⟨h', S', q⟩ := q
    have q' := q
    obtain ⟨S4, T4, ν4, X4, F4, r4, -⟩ := q'
    obtain ⟨Sy, Ty, ν, C5, kp, hx, ex, n1, n2⟩ := CI_cp C3 (by show 13 ≤ mi_sF σ2 9 8; omega) (by show 13 ≤ mi_sF σ2 9 9; omega) a3 q
    have ex' : Ty x = sb (cp_t 0 (mi_uF (mi_uF (mi_uF (mi_uF (mi_uF σ2 43 6 34) 44 3 0) 43 7 (-1)) 43 9 0) 43 10 0) ν) t := by rw [ex, a4']
    rw [a4'] at n1 n2
    refine rq_end (by omega) ?_ ?_ ⟨Sy, Ty, CI_s C5 ⟨⟨rfl, rfl⟩, rfl, rfl, rfl, rfl, rfl, rfl⟩, ?_, ?_, QF_uA (QF_tr Qe (QF_sg F4 (by decide) (by decide) fun n p0 p1 => X4.2.1 n p0 (by have p1' : n < mi_sF σ2 9 9 := p1; show n < mi_sF σ2 9 8; omega))) (by decide) (by decide), ⟨?_, ?_, ?_, ?_⟩, ?_, ?_⟩
    · show 0 + 1 = mi_sF σ' 34 7
      rw [F4.2.2 34 7 (by decide)]
      show _ = mi_sF σ2 34 7
      omega
    · show mi_sF σ' 34 7 ≤ 1024
      rw [F4.2.2 34 7 (by decide)]
      show mi_sF σ2 34 7 ≤ _
      omega
    · rw [mi_AA, if_pos ⟨rfl, rfl⟩]; exact hx
    · rw [mi_AA, if_pos ⟨rfl, rfl⟩]
      refine ⟨fun v => (ν (v : Int)).toNat, ?_, fun v w hv hw e => ?_⟩
      · rw [ex']
        refine sb_ext _ fun v hv => ?_
        unfold cp_t
        rw [if_pos ⟨a6' v hv, rfl⟩]
      · have p := (n1 rfl v hv (a6' v hv)).1
        have r := (n1 rfl w hw (a6' w hw)).1
        have e8' : mi_sF (mi_uF (mi_uF (mi_uF (mi_uF (mi_uF σ2 43 6 34) 44 3 0) 43 7 (-1)) 43 9 0) 43 10 0) 9 8 = mi_sF σ2 9 8 := rfl
        have e' : (ν (v : Int)).toNat = (ν (w : Int)).toNat := e
        exact n2 rfl v w hv hw (a6' v hv) (a6' w hw) (by omega)
    · show mi_sF σ' 2 0 = 0
      rw [F4.2.2 2 0 (by decide)]; exact f22
    · show mi_sF σ' 34 7 = 1
      rw [F4.2.2 34 7 (by decide)]; exact p7'
    · show mi_sF σ' 0 10 = 0
      rw [F4.2.2 0 10 (by decide)]; exact f010
    · obtain ⟨q1, q2, q3, q4, q5, q6, q7⟩ := kb2
      exact ⟨(F4.2.2 17 12 (by decide)).trans q1, by show mi_sE σ' 18 0 = _; rw [sg_E F4 18]; exact q2, by show mi_sE σ' 18 1 = _; rw [sg_E F4 18]; exact q3, by show mi_sE σ' 18 2 = _; rw [sg_E F4 18]; exact q4, (F4.2.1 19 0 (by decide)).trans q5, (F4.2.1 19 1 (by decide)).trans q6, (F4.2.1 19 2 (by decide)).trans q7⟩
    · show mi_sF σ 9 8 ≤ mi_sF σ' 9 8
      have := X4.1
      have e8' : mi_sF (mi_uF (mi_uF (mi_uF (mi_uF (mi_uF σ2 43 6 34) 44 3 0) 43 7 (-1)) 43 9 0) 43 10 0) 9 8 = mi_sF σ2 9 8 := rfl
      omega
    · show mi_sF σ' 9 11 = mi_sF σ 9 11 + 1
      have e8' : mi_sF (mi_uF (mi_uF (mi_uF (mi_uF (mi_uF σ2 43 6 34) 44 3 0) 43 7 (-1)) 43 9 0) 43 10 0) 9 11 = mi_sF σ2 9 11 := rfl
      omega
  obtain ⟨S4, T4, C4, hx, rr, Q4, ⟨g1, g2, g3, g4⟩, g8, g11⟩ := Q3
  refine ⟨g1, ⟨by omega, by omega, by omega⟩, ?_⟩
  have gx := C4.1.2 _ hx
  have wt' : wt t := (C2.2.2.2.2.2 a _ ha).2.2.2.2.1
  have wlr : wl (T4 (mi_sA σ3 41 0)) = wl t := by
    obtain ⟨μ, e, -⟩ := rr
    rw [e]; exact wl_sbv wt'
  have nvr := nv_ren wt' rr
  have txr := (txt_ren wt' rr).1
  have s911 : mi_sF (mi_uF σ 0 10 0) 9 11 = mi_sF σ 9 11 := rfl
  refine ty_Ci_s (wr_put1 (d := d + 5) C4.2.1 (by omega) C4.1 (fun n hn => ty_T_tag C4.1 hn (C4.2.2.1 n hn)) g4 gx.1.1 gx.1.2 (by rw [gx.2.1]; exact hx) (by rw [gx.2.1, wlr]; exact hl) (by rw [gx.2.1]; unfold nv vl at nvr hn; omega)) fun w σ4 h4 S5 Q5 => ?_
  obtain ⟨ew, F5, r5, Z5, pp⟩ := Q5
  rw [gx.2.1] at pp
  have Qf : QF (mi_uF σ 0 10 0) σ4 := QF_tr Q4 (QF_s0 F5 (by decide) (by decide) (by decide))
  refine ⟨ew, (F5.2.2 2 0 (by decide)).trans g1, rfl, ?_, by rw [← txr]; exact pp⟩
  exact PQ_end (σ := mi_uF σ 0 10 0) (ty_H_u hS).2.2.2 h13 P Qf (ty_H_u S5).2.2.2 Z5 (by show mi_sF σ 9 8 ≤ _; rw [F5.2.2 9 8 (by decide)]; exact g8) ((F5.2.2 0 10 (by decide)).trans g3) (by omega)
end QQ
