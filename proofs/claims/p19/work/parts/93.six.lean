/-! ===== the six definitions, one after another ===== -/
theorem hd_m {ds : List (Int64 × tr)} {ks : List Int64} {key : Int64} (h : ds.map (fun q => q.1) = ks) (hk : key ∉ ks) : ∀ (i : Nat) (q : Int64 × tr), ds[i]? = some q → q.1 ≠ key := fun i q hq e => hk (by
  rw [← h, ← e]
  exact List.mem_map_of_mem (List.mem_of_getElem? hq))
theorem hd_t {ds : List (Int64 × tr)} {ks : List Int64} {key : Int64} {i1 : Nat} (h : ds.map (fun q => q.1) = ks) (hk : key ∉ ks.take i1) : ∀ (i : Nat) (q : Int64 × tr), i < i1 → ds[i]? = some q → q.1 ≠ key := fun i q hi hq e => hk (by
  rw [← h, ← e, ← List.map_take]
  refine List.mem_map_of_mem ?_
  refine List.mem_of_getElem? (i := i) ?_
  rw [List.getElem?_take_of_lt hi]
  exact hq)
def EKf (E : Int → Int64) (p : Int) (e : tr) (k k' : Int64) : Prop := E (p + 1) = k ∧ E (p + ((tkf 0 e).length + 4)) = k' ∧ kyp E 0 (p + 3) e
def EKe (E : Int → Int64) (p : Int) : Prop := E (p + 1) = 101 ∧ E (p + 4) = 25648 ∧ E (p + 6) = 25649
def EKi (E : Int → Int64) (p : Int) : Prop := E (p + 1) = 105 ∧ E (p + 4) = 120 ∧ E (p + 6) = 25650
def EKu (E : Int → Int64) (p : Int) : Prop := E (p + 1) = 117 ∧ E (p + 4) = 118 ∧ E (p + 6) = 25648 ∧ E (p + 9) = 118 ∧ E (p + 11) = 118
/-- a type that the law may choose -/
def tyl (e : tr) : Prop := wt e ∧ hg e ≤ 4 ∧ (∀ v, vin v e → v < 6) ∧ pz e ≤ 15
/-- what the six definitions are -/
def D6 (e0 e1 e2 : tr) (ds : List (Int64 × tr)) : Prop := ∃ (t0 t1 t2 a b : tr) (v : Nat) (c x y : tr), (REN e0 t0 ∧ REN e1 t1 ∧ REN e2 t2) ∧ (REN t0 a ∧ REN t1 b ∧ ∀ w, vin w a → ¬ vin w b) ∧ (REN t2 c ∧ ¬ vin v c) ∧ (REN t0 x ∧ REN t0 y ∧ ∀ w, vin w x → ¬ vin w y) ∧ ds = [(25648, t0), (25649, t1), (25650, t2), (101, tn 5 a b tr_0), (105, tn 6 (.var v) c tr_0), (117, tn 5 x y tr_0)]
section KS
variable {X : mi_X} {d : Nat} {h0 : mi_H} {Q : mi_Z → Prop} {σ : mi_Sg} {ds : List (Int64 × tr)} {E : Int → Int64} {N s0 p : Int} {key : Int64} {l : List (Int × Int × Int)}
/-- ks_own over the row of steps as it is printed -/
theorem kp_own {e : tr} (I : KI σ ds E N) (S : ST σ s0 (dfS e p s0 ++ l)) (p0 : 0 ≤ p) (p1 : p + ((tkf 0 e).length + 6) ≤ N) (ek : EKf E p e key key) (ty : tyl e) (hd : ∀ (i : Nat) (q : Int64 × tr), ds[i]? = some q → q.1 ≠ key) (hn : ds.length < 24) (hu : mi_sF σ 9 8 + 16 ≤ 512) (hr : mi_sF σ 9 11 < 99990000)
    (K : ∀ σ' t, REN e t → KI σ' (ds ++ [(key, t)]) E N → KF σ σ' → mi_sF σ' 9 8 ≤ mi_sF σ 9 8 + 16 → mi_sF σ' 9 11 ≤ mi_sF σ 9 11 + 20 → (∀ j, mi_sA σ' 25 j = mi_sA σ 25 j + if j = ds.length * 24 + ds.length then 1 else 0) → ST σ' (s0 + (dfS e p s0).length) l → RH X d h0 Q (s0 + (dfS e p s0).length) σ') : RH X d h0 Q s0 σ := by
  obtain ⟨k1, k2, ky⟩ := ek
  obtain ⟨hw, hh, h6, hp⟩ := ty
  have hl := tkf_len (e := e) (hg e) rfl hw 0
  have el := dfS_len e p s0
  rw [el] at K
  unfold dfS at S
  rw [List.cons_append, List.append_assoc, List.cons_append, List.cons_append, List.cons_append, List.nil_append] at S
  refine ks_own I S (by omega) p0 (by omega) (by omega) k1 (by omega) (by omega) k2 hd hn ky hw h6 (by omega) (by omega) hr fun σ' t r I' F f8 f11 r25 S' => K σ' t r I' F (by omega) f11 (fun j => ?_) S'
  rw [r25 j]
  split <;> omega
theorem pg6 {e0 e1 e2 : tr} {p1 p2 p3 p4 p5 s1 s2 s3 s4 s5 s6 : Int} (I : KI σ [] E N) (S : ST σ 0 (dfS e0 0 0 ++ (dfS e1 p1 s1 ++ (dfS e2 p2 s2 ++ (deS p3 s3 ++ (diS p4 s4 ++ (duS p5 s5 ++ l)))))))
    (hp1 : p1 = (tkf 0 e0).length + 6) (hp2 : p2 = p1 + ((tkf 0 e1).length + 6)) (hp3 : p3 = p2 + ((tkf 0 e2).length + 6)) (hp4 : p4 = p3 + 9) (hp5 : p5 = p4 + 8) (hpN : p5 + 14 ≤ N)
    (hs1 : s1 = (dfS e0 0 0).length) (hs2 : s2 = s1 + (dfS e1 p1 s1).length) (hs3 : s3 = s2 + (dfS e2 p2 s2).length) (hs4 : s4 = s3 + 5) (hs5 : s5 = s4 + 5) (hs6 : s6 = s5 + 8)
    (t0 : tyl e0) (t1 : tyl e1) (t2 : tyl e2) (k0 : EKf E 0 e0 25648 25648) (k1 : EKf E p1 e1 25649 25649) (k2 : EKf E p2 e2 25650 25650) (k3 : EKe E p3) (k4 : EKi E p4) (k5 : EKu E p5) (hu : mi_sF σ 9 8 = 13) (hr : mi_sF σ 9 11 < 99980000)
    (K : ∀ σ' ds, D6 e0 e1 e2 ds → KI σ' ds E N → KF σ σ' → mi_sF σ' 9 8 ≤ 160 → mi_sF σ' 9 11 ≤ mi_sF σ 9 11 + 120 → (mi_sA σ' 25 72 = mi_sA σ 25 72 + 1 ∧ mi_sA σ' 25 120 = mi_sA σ 25 120 + 1 ∧ mi_sA σ' 25 97 = mi_sA σ 25 97) → ST σ' s6 l → RH X d h0 Q s6 σ') : RH X d h0 Q 0 σ := by
  refine kp_own (ds := []) I S (by omega) (by omega) k0 t0 (hd_m (ks := []) rfl (by decide)) (Nat.le_of_ble_eq_true rfl) (by omega) (by omega) fun σ1 x0 r0 I1 F1 a1 b1 u1 S1 => ?_
  rw [show (0 : Int) + ((dfS e0 0 0).length : Int) = s1 by omega] at S1 ⊢
  refine kp_own (ds := [(25648, x0)]) I1 S1 (by omega) (by omega) k1 t1 (hd_m (ks := [25648]) rfl (by decide)) (Nat.le_of_ble_eq_true rfl) (by omega) (by omega) fun σ2 x1 r1 I2 F2 a2 b2 u2 S2 => ?_
  rw [← hs2] at S2 ⊢
  refine kp_own (ds := [(25648, x0), (25649, x1)]) I2 S2 (by omega) (by omega) k2 t2 (hd_m (ks := [25648, 25649]) rfl (by decide)) (Nat.le_of_ble_eq_true rfl) (by omega) (by omega) fun σ3 x2 r2 I3 F3 a3 b3 u3 S3 => ?_
  rw [← hs3] at S3 ⊢
  have z0 := REN_pz r0
  have z1 := REN_pz r1
  have z2 := REN_pz r2
  have y0 := t0.2.2.2
  have y1 := t1.2.2.2
  have y2 := t2.2.2.2
  have w0 := pz_wt t0.1
  have w1 := pz_wt t1.1
  have w2 := pz_wt t2.1
  refine ks_pair (ds := [(25648, x0), (25649, x1), (25650, x2)]) (i1 := 0) (i2 := 1) I3 S3 rfl rfl rfl (by omega) (by omega) k3.1 (by omega) (by omega) k3.2.1 (by omega) (by omega) k3.2.2 rfl rfl (hd_m (ks := [25648, 25649, 25650]) rfl (by decide)) (hd_t (ks := [25648, 25649, 25650]) rfl (by decide)) (hd_t (ks := [25648, 25649, 25650]) rfl (by decide)) (Nat.le_of_ble_eq_true rfl) (by omega) (by omega) (by omega) fun σ4 a b ra rb rab I4 F4 a4 b4 u4 S4 => ?_
  rw [← hs4] at S4 ⊢
  refine ks_fun (ds := [(25648, x0), (25649, x1), (25650, x2), (101, tn 5 a b tr_0)]) (i2 := 2) (kx := 120) I4 S4 rfl rfl (by omega) (by omega) k4.1 (by omega) (by omega) k4.2.1 (by omega) (by omega) k4.2.2 rfl (by decide) (hd_m (ks := [25648, 25649, 25650, 101]) rfl (by decide)) (hd_t (ks := [25648, 25649, 25650, 101]) rfl (by decide)) (Nat.le_of_ble_eq_true rfl) (by omega) (by omega) (by omega) fun σ5 v c rc rv I5 F5 a5 b5 u5 S5 => ?_
  rw [← hs5] at S5 ⊢
  refine ks_let (ds := [(25648, x0), (25649, x1), (25650, x2), (101, tn 5 a b tr_0), (105, tn 6 (.var v) c tr_0)]) (i1 := 0) (kv := 118) I5 S5 rfl rfl rfl rfl rfl (by omega) (by omega) k5.1 (by omega) (by omega) k5.2.2.1 (by omega) (by omega) k5.2.1 (by omega) (by omega) k5.2.2.2.1 (by omega) (by omega) k5.2.2.2.2 rfl (hd_m (ks := [25648, 25649, 25650, 101, 105]) rfl (by decide)) (hd_t (ks := [25648, 25649, 25650, 101, 105]) rfl (by decide)) (Nat.le_of_ble_eq_true rfl) (by omega) (by omega) (by omega) fun σ6 x y rx ry rxy I6 F6 a6 b6 u6 S6 => ?_
  rw [← hs6] at S6 ⊢
  have l0 : (([] : List (Int64 × tr)).length : Int) = 0 := rfl
  have l1 : (([(25648, x0)] : List (Int64 × tr)).length : Int) = 1 := rfl
  have l2 : (([(25648, x0), (25649, x1)] : List (Int64 × tr)).length : Int) = 2 := rfl
  have l3 : (([(25648, x0), (25649, x1), (25650, x2)] : List (Int64 × tr)).length : Int) = 3 := rfl
  have l4 : (([(25648, x0), (25649, x1), (25650, x2), (101, tn 5 a b tr_0)] : List (Int64 × tr)).length : Int) = 4 := rfl
  have l5 : (([(25648, x0), (25649, x1), (25650, x2), (101, tn 5 a b tr_0), (105, tn 6 (.var v) c tr_0)] : List (Int64 × tr)).length : Int) = 5 := rfl
  rw [l0] at u1
  rw [l1] at u2
  rw [l2] at u3
  rw [l3] at u4
  rw [l4] at u5
  rw [l5] at u6
  refine K σ6 _ ⟨x0, x1, x2, a, b, v, c, x, y, ⟨r0, r1, r2⟩, ⟨ra, rb, rab⟩, ⟨rc, rv⟩, ⟨rx, ry, rxy⟩, rfl⟩ I6 (KF_tr F1 (KF_tr F2 (KF_tr F3 (KF_tr F4 (KF_tr F5 F6))))) (by omega) (by omega) ⟨?_, ?_, ?_⟩ S6
  · rw [u6, u5, u4, u3, u2, u1]
    simp
  · rw [u6, u5, u4, u3, u2, u1]
    simp
  · rw [u6, u5, u4, u3, u2, u1]
    simp
end KS
