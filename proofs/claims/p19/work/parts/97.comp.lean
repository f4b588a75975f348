/-! ===== compile, from the text on the tape ===== -/
/-- what no call changes -/
def BB (σ : mi_Sg) : Prop := (mi_sE σ 18 0 = 6909556 ∧ mi_sE σ 18 1 = 1651470188 ∧ mi_sE σ 18 2 = 1818850164 ∧ mi_sA σ 19 0 = 0 ∧ mi_sA σ 19 1 = 0 ∧ mi_sA σ 19 2 = 1) ∧ KW σ ∧ (∀ i, 3 ≤ i → i < 39 → 0 ≤ mi_sA σ 11 i ∧ mi_sA σ 11 i < 13) ∧ ∀ i, 3 ≤ i → i < 9 → mi_sA σ 11 i = 0
/-- the first nodes, between calls -/
def BC (σ : mi_Sg) : Prop := (mi_sA σ 10 0 = 0 ∧ mi_sA σ 10 1 = 1 ∧ mi_sA σ 10 2 = 2) ∧ (mi_sA σ 12 1 = 1 ∧ mi_sA σ 12 2 = 2) ∧ mi_sA σ 13 0 = 0 ∧ 0 ≤ mi_sF σ 9 11 ∧ ∀ n, 0 ≤ n → n < 13 → 0 ≤ mi_sA σ 13 n ∧ mi_sA σ 13 n ≤ 2 * mi_sF σ 9 11 + 1
/-- the text on the tape -/
def TX (σ : mi_Sg) (bs : List Int) : Prop := mi_sF σ 0 10 = bs.length ∧ tby σ 0 bs
theorem BB_c {σ σ' : mi_Sg} (B : BB σ) (e18 : ∀ i, mi_sE σ' 18 i = mi_sE σ 18 i) (e19 : ∀ i, mi_sA σ' 19 i = mi_sA σ 19 i) (e4 : ∀ i, mi_sE σ' 4 i = mi_sE σ 4 i) (e11 : ∀ i, 3 ≤ i → i < 39 → mi_sA σ' 11 i = mi_sA σ 11 i) : BB σ' := by
  obtain ⟨⟨a1, a2, a3, a4, a5, a6⟩, k, b, c⟩ := B
  refine ⟨⟨(e18 0).trans a1, (e18 1).trans a2, (e18 2).trans a3, (e19 0).trans a4, (e19 1).trans a5, (e19 2).trans a6⟩, fun j hj => (e4 j).trans (k j hj), fun i i0 i1 => ?_, fun i i0 i1 => ?_⟩
  · rw [e11 i i0 i1]; exact b i i0 i1
  · rw [e11 i i0 (by omega)]; exact c i i0 i1
theorem flc_asc : ∀ (l : List (Nat × Nat)), okc l → ∀ b ∈ flc l, 0 ≤ b ∧ b < 128
  | [], _, b, h => by cases h
  | (bl, c) :: r, ok, b, h => by
    rw [flc_c, List.mem_append, List.mem_append] at h
    rcases h with h | h | h
    · have := List.eq_of_mem_replicate h
      omega
    · have hc : c < 30 := okc_30 ok
      have := List.all_eq_true.mp (tok_all ⟨c, hc⟩).2.2 b h
      simpa using this
    · exact flc_asc r (okc_t ok) b h
/-- the nodes of int and bool alone -/
def n12 (n : Int) : Prop := n = 1 ∨ n = 2
def t12 (n : Int) : tr := if n = 1 then tn 1 tr_0 tr_0 tr_0 else if n = 2 then tn 2 tr_0 tr_0 tr_0 else .num 0
theorem CI_0 {σ : mi_Sg} (B : BB σ) (C : BC σ) (h8 : mi_sF σ 9 8 = 13) (h0 : mi_sA σ 12 0 = 0) : CI n12 t12 σ [] := by
  obtain ⟨-, -, b1, b2⟩ := B
  obtain ⟨⟨c0, c1, c2⟩, ⟨d1, d2⟩, e, f, g⟩ := C
  have kz : ∀ n, n12 n → ∀ k, 0 ≤ k → k < 3 → ty_K' σ n k = 0 := fun n hn k k0 k1 => by
    unfold ty_K' ty_k
    rw [b2 _ (by rcases hn with rfl | rfl <;> omega) (by rcases hn with rfl | rfl <;> omega)]
    exact h0
  have tz : t12 0 = .num 0 := by unfold t12; rw [if_neg (by decide), if_neg (by decide)]
  have t1 : t12 1 = tn 1 tr_0 tr_0 tr_0 := if_pos rfl
  have t2 : t12 2 = tn 2 tr_0 tr_0 tr_0 := by unfold t12; rw [if_neg (by decide), if_pos rfl]
  have z0 : tr_0 = .num 0 := rfl
  refine ⟨⟨tz, fun n hn => ?_⟩, ⟨f, fun n k n0 n1 k0 k1 => ?_, fun n n0 n1 => g n n0 (by omega), e, c0⟩, fun n hn => ?_, ⟨⟨Or.inl rfl, t1⟩, ⟨Or.inr rfl, t2⟩⟩, fun n hn => by rcases hn with h | h <;> omega, fun i q hq => by cases hq⟩
  · have tg : mi_sA σ 10 n = n ∧ mi_sA σ 12 n = n := by rcases hn with rfl | rfl <;> exact ⟨by assumption, by assumption⟩
    have hn' : n = 1 ∨ n = 2 := hn
    refine ⟨by omega, tg.2, ⟨by omega, fun _ => tg.1.symm⟩, fun k k0 k1 => Or.inl (kz n hn k k0 k1), fun q => by omega, fun _ _ => ?_, fun k k0 k1 => ?_⟩
    · rw [kz n hn 0 (by omega) (by omega), kz n hn 1 (by omega) (by omega), kz n hn 2 (by omega) (by omega), tg.1, tz]
      rcases hn' with rfl | rfl
      · exact t1
      · exact t2
    · rw [kz n hn k k0 k1, tg.1, ar_0 (by omega)]
      exact ⟨fun _ => k0, fun _ => rfl⟩
  · unfold ty_k
    have := b1 (n * 3 + k) (by omega) (by omega)
    omega
  · rcases hn with rfl | rfl
    · rw [t1]; exact wt_1
    · rw [t2]; exact wt_2
section CP
variable {X : mi_X} {d : Nat} {σ : mi_Sg}
theorem comp_g {l : List (Nat × Nat)} {steps : List (Int × Int × Int)} {n : Int} {R : mi_Sg → Prop} {P : Int → mi_Sg → Prop} (B : BB σ) (C : BC σ) (tx : TX σ (flc l)) (ok : okc l) (hl : l.length < 299) (ht : (flc l).length ≤ 1200)
    (parse : ∀ σ2, mi_sF σ2 2 0 = 0 → mi_sF σ2 3 7 = l.length + 1 → tq σ2 0 (l.map (fun q => tokK q.2) ++ [18]) → ty_Cv X (d + 71) mi_M75 [(0, .ref 42), (1, .ref 26)] σ2 (fun σ' => ps26_Q (mi_uF (mi_uF (mi_uF σ2 42 2 26) 26 7 0) 42 3 0) σ' n steps))
    (hst : steps.length ≤ 1000)
    (run : ∀ h0 σ3 E, KI σ3 [] E (l.length + 1) → KYS E 0 l → ST σ3 0 steps → mi_sF σ3 9 8 = 13 → mi_sF σ3 9 11 = mi_sF σ 9 11 → (∀ j, 0 ≤ j → j < 576 → mi_sA σ3 25 j = 0) → BB σ3 → mi_sF σ3 26 7 = steps.length → mi_sF σ3 0 10 = 0 → RH X (d + 59) h0 (fun z => ∃ v h' σ', z = (.inl v, h', 0, 0) ∧ ty_H h' σ' ∧ mi_Fm h0 h' ∧ v = none ∧ R σ') 0 σ3)
    (fin : ∀ σ4, R σ4 → mi_sF σ4 2 0 = 0 ∧ P 0 (mi_uF σ4 9 9 (mi_sF σ4 9 8))) : ty_Ci X (d + 72) mi_M5 [(0, .ref 0)] σ P := by
  refine ty_C_S fun h hS => ?_
  refine tl_compile (d := d + 70) (ty_Cv_s (tl_forget (d := d + 69) hS.1.2) fun σ1 h1 S1 ⟨F1, r25⟩ => ?_)
  have f1 : ∀ k j : Nat, mi_sF σ1 k j = mi_sF (mi_uF (mi_uF (mi_uF (mi_uF (mi_uF (mi_uF σ 26 7 0) 9 8 13) 9 9 13) 17 12 3) 17 13 2) 17 14 0) k j := fun k j => F1.2.2 k j (by simp)
  have a1 : ∀ (k : Nat) (i : Int), k ≠ 25 → mi_sA σ1 k i = mi_sA σ k i := fun k i hk => F1.2.1 k i (by simpa using hk)
  have e1 : ∀ (k : Nat) (i : Int), mi_sE σ1 k i = mi_sE σ k i := fun k i => by
    rw [sg_E F1 k]; rfl
  have f10 : mi_sF σ1 0 10 = mi_sF σ 0 10 := f1 0 10
  rw [f10, tx.1]
  have asc := flc_asc l ok
  have tb : ∀ σ', (∀ i, mi_sA σ' 1 i = mi_sA σ 1 i) → tby σ' 0 (flc l) := fun σ' q i b hb => (q _).trans (tx.2 i b hb)
  have KWc : ∀ σ', (∀ i, mi_sE σ' 4 i = mi_sE σ 4 i) → KW σ' := fun σ' q j hj => (q j).trans (B.2.1 j hj)
  have ll : (l.map itc).length < 299 := by rw [List.length_map]; exact hl
  refine ty_Cv_s (to_read (d := d + 59) (its := l.map itc) (by omega) (by omega) ll ⟨⟨by show 0 ≤ ((flc l).length : Int); omega, by show ((flc l).length : Int) ≤ 1200; omega⟩, fun i i0 i1 => ?_⟩ (lay_c (σ := mi_uF (mi_uF (mi_uF (mi_uF σ1 2 0 0) 2 1 (-1)) 3 6 (flc l).length) 3 7 0) (KWc _ fun i => e1 4 i) l 0 ok (tb _ fun i => a1 1 i (by decide)) (by show ((flc l).length : Int) = 0 + ((flc l).length : Int); omega))) fun σ2 h2 S2 Q2 => ?_
  · have i1' : i < ((flc l).length : Int) := i1
    have hb := tb (mi_uF (mi_uF (mi_uF (mi_uF σ1 2 0 0) 2 1 (-1)) 3 6 (flc l).length) 3 7 0) (fun i => a1 1 i (by decide)) i.toNat _ (List.getElem?_eq_getElem (by omega))
    rw [show (0 : Int) + ((i.toNat : Nat) : Int) = i by omega] at hb
    rw [hb]
    exact asc _ (List.getElem_mem _)
  obtain ⟨tf2, n7, -, its, t18⟩ := Q2
  have nl : (((l.map itc).length : Nat) : Int) = l.length := by rw [List.length_map]
  rw [nl] at n7 t18
  have f2 : ∀ k j : Nat, (k, j) ≠ (3, 7) → mi_sF σ2 k j = mi_sF (mi_uF (mi_uF (mi_uF (mi_uF σ1 2 0 0) 2 1 (-1)) 3 6 (flc l).length) 3 7 0) k j := fun k j hk => tf2.2.1 k j (by simpa using hk)
  have f20 : mi_sF σ2 2 0 = 0 := by
    rw [f2 2 0 (by decide)]
    rw [mi_FF, if_neg (by decide), mi_FF, if_neg (by decide), mi_FF, if_neg (by decide), mi_FF, if_pos ⟨rfl, rfl⟩]
  have f2o : ∀ k j : Nat, k ≠ 2 → k ≠ 3 → mi_sF σ2 k j = mi_sF σ1 k j := fun k j h2 h3 => by
    rw [f2 k j (fun q => h3 (by injection q)), mi_FF, if_neg (fun q => h3 q.1), mi_FF, if_neg (fun q => h3 q.1), mi_FF, if_neg (fun q => h2 q.1), mi_FF, if_neg (fun q => h2 q.1)]
  have a2 : ∀ (k : Nat) (i : Int), k ∉ [5, 6, 7] → mi_sA σ2 k i = mi_sA σ1 k i := fun k i hk => tf2.1 k i hk
  have e2 : ∀ (k : Nat) (i : Int), k ≠ 8 → mi_sE σ2 k i = mi_sE σ1 k i := fun k i hk => tf2.2.2.1 k i hk
  have hq : tq (mi_uF σ2 0 10 0) 0 (l.map (fun q => tokK q.2) ++ [18]) := fun i k hk => by
    show mi_sA σ2 5 _ = k
    by_cases hi : i < l.length
    · rw [List.getElem?_append_left (by simpa using hi), List.getElem?_map] at hk
      obtain ⟨q, hq, rfl⟩ := Option.map_eq_some_iff.mp hk
      exact (its i (itc q) (by rw [List.getElem?_map, hq]; rfl)).1
    · rw [List.getElem?_append_right (by simpa using hi)] at hk
      have hz := (List.getElem?_eq_some_iff.mp hk).1
      simp at hz
      have hi' : i = l.length := by omega
      subst hi'
      simp at hk
      rw [← hk]
      exact t18
  have n7' : mi_sF σ2 3 7 = l.length + 1 := by omega
  have kys : KYS (mi_sE σ2 8) 0 l := fun i q hq => (its i (itc q) (by rw [List.getElem?_map, hq]; rfl)).2
  refine ty_Cv_s (parse (mi_uF σ2 0 10 0) f20 n7' hq) fun σ3 h3 S3 Q3 => ?_
  obtain ⟨F3, p3, p7, -, st⟩ := Q3
  have p7' : mi_sF σ3 26 7 = steps.length := by
    rw [p7]
    show (0 : Int) + _ = _
    omega
  have f3 : ∀ k j : Nat, (k, j) ∉ [(26, 7), (42, 3)] → (k, j) ≠ (42, 2) → (k, j) ≠ (0, 10) → mi_sF σ3 k j = mi_sF σ2 k j := fun k j a b c => by
    rw [F3.2.2 k j a]
    simp only [List.mem_cons, List.not_mem_nil, or_false, not_or] at a
    rw [mi_FF, if_neg (fun q => a.2 (by rw [q.1, q.2])), mi_FF, if_neg (fun q => a.1 (by rw [q.1, q.2])), mi_FF, if_neg (fun q => b (by rw [q.1, q.2])), mi_FF, if_neg (fun q => c (by rw [q.1, q.2]))]
  have a3 : ∀ (k : Nat) (i : Int), k ∉ [27, 28, 29, 30, 31, 32, 33] → mi_sA σ3 k i = mi_sA σ2 k i := fun k i hk => F3.2.1 k i hk
  have e3 : ∀ (k : Nat) (i : Int), mi_sE σ3 k i = mi_sE σ2 k i := fun k i => by rw [sg_E F3 k]; rfl
  refine ty_Cv_m (run26_go (d := d + 59) (P := R) fun h0 => run h0 _ (mi_sE σ2 8) ⟨⟨n12, t12, ?_⟩, ⟨⟨⟨?_, ?_, ?_, ?_, ?_, ?_, ?_⟩, ?_, ?_, by omega⟩, ?_, ?_, ?_⟩, ?_, ?_⟩ kys ?_ ?_ ?_ (fun j j0 j1 => ?_) ?_ p7' ?_) fin
  · refine CI_0 ?_ ?_ ?_ ?_
    · exact BB_c B (fun i => (e3 18 i).trans ((e2 18 i (by decide)).trans (e1 18 i))) (fun i => (a3 19 i (by decide)).trans ((a2 19 i (by decide)).trans (a1 19 i (by decide)))) (fun i => (e3 4 i).trans ((e2 4 i (by decide)).trans (e1 4 i))) (fun i _ _ => (a3 11 i (by decide)).trans ((a2 11 i (by decide)).trans (a1 11 i (by decide))))
    · obtain ⟨⟨c0, c1, c2⟩, ⟨d1, d2⟩, e, f, g⟩ := C
      have A : ∀ (k : Nat) (i : Int), k ∉ [5, 6, 7, 25, 27, 28, 29, 30, 31, 32, 33] → mi_sA σ3 k i = mi_sA σ k i := fun k i hk => by
        simp only [List.mem_cons, List.not_mem_nil, or_false, not_or] at hk
        rw [a3 k i (by simp only [List.mem_cons, List.not_mem_nil, or_false, not_or]; omega), a2 k i (by simp only [List.mem_cons, List.not_mem_nil, or_false, not_or]; omega), a1 k i (by omega)]
      have e911 : mi_sF σ3 9 11 = mi_sF σ 9 11 := by rw [f3 9 11 (by decide) (by decide) (by decide), f2o 9 11 (by decide) (by decide), f1 9 11]; rfl
      refine ⟨⟨(A 10 0 (by decide)).trans c0, (A 10 1 (by decide)).trans c1, (A 10 2 (by decide)).trans c2⟩, ⟨(A 12 1 (by decide)).trans d1, (A 12 2 (by decide)).trans d2⟩, (A 13 0 (by decide)).trans e, ?_, fun n n0 n1 => ?_⟩
      · show 0 ≤ mi_sF σ3 9 11
        rw [e911]; exact f
      · show 0 ≤ mi_sA σ3 13 n ∧ mi_sA σ3 13 n ≤ 2 * mi_sF σ3 9 11 + 1
        rw [e911, A 13 n (by decide)]; exact g n n0 n1
    · show mi_sF σ3 9 8 = 13
      rw [f3 9 8 (by decide) (by decide) (by decide), f2o 9 8 (by decide) (by decide), f1 9 8]; rfl
    · exact (ty_H_u S3).2.2.2
  · show mi_sF σ3 17 12 = 3
    rw [f3 17 12 (by decide) (by decide) (by decide), f2o 17 12 (by decide) (by decide), f1 17 12]; rfl
  · exact ((e3 18 0).trans ((e2 18 0 (by decide)).trans (e1 18 0))).trans B.1.1
  · exact ((e3 18 1).trans ((e2 18 1 (by decide)).trans (e1 18 1))).trans B.1.2.1
  · exact ((e3 18 2).trans ((e2 18 2 (by decide)).trans (e1 18 2))).trans B.1.2.2.1
  · exact ((a3 19 0 (by decide)).trans ((a2 19 0 (by decide)).trans (a1 19 0 (by decide)))).trans B.1.2.2.2.1
  · exact ((a3 19 1 (by decide)).trans ((a2 19 1 (by decide)).trans (a1 19 1 (by decide)))).trans B.1.2.2.2.2.1
  · exact ((a3 19 2 (by decide)).trans ((a2 19 2 (by decide)).trans (a1 19 2 (by decide)))).trans B.1.2.2.2.2.2
  · exact (f3 2 0 (by decide) (by decide) (by decide)).trans f20
  · exact (f3 3 7 (by decide) (by decide) (by decide)).trans n7'
  · rw [mi_FF, if_neg (by decide), mi_FF, if_neg (by decide), mi_FF, if_neg (by decide), mi_FF, if_neg (by decide), mi_FF, if_pos ⟨rfl, rfl⟩]
  · show mi_sF σ3 9 9 = 13
    rw [f3 9 9 (by decide) (by decide) (by decide), f2o 9 9 (by decide) (by decide), f1 9 9]; rfl
  · exact funext fun i => e3 8 i
  · show mi_sF σ3 17 14 = _
    rw [f3 17 14 (by decide) (by decide) (by decide), f2o 17 14 (by decide) (by decide), f1 17 14]; rfl
  · rw [mi_FF, if_neg (by decide), mi_FF, if_neg (by decide), mi_FF, if_neg (by decide), mi_FF, if_pos ⟨rfl, rfl⟩]
  · refine ⟨⟨Int.le_refl _, ?_, ?_⟩, st⟩
    · show _ ≤ mi_sF σ3 26 7
      omega
    · show mi_sF σ3 26 7 ≤ 1024
      omega
  · show mi_sF σ3 9 8 = 13
    rw [f3 9 8 (by decide) (by decide) (by decide), f2o 9 8 (by decide) (by decide), f1 9 8]; rfl
  · show mi_sF σ3 9 11 = _
    rw [f3 9 11 (by decide) (by decide) (by decide), f2o 9 11 (by decide) (by decide), f1 9 11]; rfl
  · show mi_sA σ3 25 j = 0
    rw [a3 25 j (by decide), a2 25 j (by decide)]; exact r25 j j0 j1
  · exact BB_c B (fun i => (e3 18 i).trans ((e2 18 i (by decide)).trans (e1 18 i))) (fun i => (a3 19 i (by decide)).trans ((a2 19 i (by decide)).trans (a1 19 i (by decide)))) (fun i => (e3 4 i).trans ((e2 4 i (by decide)).trans (e1 4 i))) (fun i _ _ => (a3 11 i (by decide)).trans ((a2 11 i (by decide)).trans (a1 11 i (by decide))))
  · show mi_sF σ3 0 10 = 0
    rw [F3.2.2 0 10 (by decide)]; rfl
end CP
