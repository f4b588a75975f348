/-! ===== how many different marks ===== -/
theorem nd_le {l1 l2 : List Nat} (h : l1.Nodup) (hs : ∀ x ∈ l1, x ∈ l2) : l1.length ≤ l2.length := by
  have g : ∀ i (hi : i < l1.length), l1.getD i 0 = l1[i] := fun i hi => by
    show (l1[i]?).getD 0 = _
    rw [List.getElem?_eq_getElem hi]
    rfl
  refine pg_l l2 l1.length (fun i => l1.getD i 0) (fun i hi => ?_) (fun i j hij hj => ?_)
  · rw [g i hi]
    exact hs _ (List.getElem_mem hi)
  · rw [g i (by omega), g j hj]
    exact List.pairwise_iff_getElem.mp h i j (by omega) hj hij
def nv (e : tr) : Int := (vl e).length
theorem nv_ren {e t : tr} (h : wt e) (r : REN e t) : nv t = nv e := by
  unfold nv
  rw [(txt_ren h r).2]
theorem nv_of {e : tr} (h : wt e) {l : List Nat} (nd : l.Nodup) (hm : ∀ v, v ∈ l ↔ vin v e) : nv e = l.length := by
  have a := nd_le (vl_nd h) (fun x hx => (hm x).2 ((vl_mem h).1 hx))
  have b := nd_le nd (fun x hx => (vl_mem h).2 ((hm x).1 hx))
  unfold nv
  omega
theorem nv_5 {a b : tr} (ha : wt a) (hb : wt b) (hd : ∀ v, vin v a → ¬ vin v b) : nv (tn 5 a b tr_0) = nv a + nv b := by
  rw [nv_of (l := vl a ++ vl b) (wt_5.2 ⟨ha, hb⟩) ?_ (fun v => ?_)]
  · unfold nv
    simp
  · rw [List.nodup_append]
    refine ⟨vl_nd ha, vl_nd hb, fun x hx y hy e => hd x ((vl_mem ha).1 hx) ?_⟩
    rw [e]
    exact (vl_mem hb).1 hy
  · rw [List.mem_append, vl_mem ha, vl_mem hb, vin_tn]
    exact ⟨fun q => q.elim Or.inl (fun z => Or.inr (Or.inl z)), fun q => by rcases q with z | z | z; exact Or.inl z; exact Or.inr z; exact z.elim⟩
theorem nv_6 {v : Nat} {b : tr} (hb : wt b) (hd : ¬ vin v b) : nv (tn 6 (.var v) b tr_0) = 1 + nv b := by
  rw [nv_of (e := tn 6 (.var v) b tr_0) (l := v :: vl b) (wt_6.2 ⟨(True.intro : wt (.var v)), hb⟩) ?_ (fun w => ?_)]
  · unfold nv
    simp
    omega
  · rw [List.nodup_cons]
    exact ⟨fun q => hd ((vl_mem hb).1 q), vl_nd hb⟩
  · rw [List.mem_cons, vl_mem hb, vin_tn]
    show w = v ∨ vin w b ↔ v = w ∨ vin w b ∨ False
    exact ⟨fun q => q.elim (fun e => Or.inl e.symm) (fun z => Or.inr (Or.inl z)), fun q => by rcases q with z | z | z; exact Or.inl z.symm; exact Or.inr z; exact z.elim⟩
theorem nv_le {e : tr} (h : wt e) : nv e ≤ pz e := by
  have gen : ∀ (m : Nat) (e : tr), hg e = m → wt e → ∀ vs : List Nat, ((tbt vs e).2.length : Int) ≤ vs.length + pz e := by
    intro m
    induction m using Nat.strongRecOn with
    | ind m ih =>
    intro e hm h vs
    rcases wt_c h with ⟨w, rfl⟩ | (rfl | rfl) | ⟨a, b, wa, wb, rfl | rfl⟩ | ⟨a, wa, rfl⟩
    · show ((ix vs w).2.length : Int) ≤ vs.length + 1
      unfold ix
      split
      · show (vs.length : Int) ≤ _
        omega
      · simp
    · show (vs.length : Int) ≤ vs.length + (1 + 0)
      omega
    · show (vs.length : Int) ≤ vs.length + (1 + 0)
      omega
    · rw [hg_tn] at hm
      have A := ih _ (by omega) a rfl wa vs
      have B := ih _ (by omega) b rfl wb (tbt vs a).2
      rw [pz_tn5]
      show ((tbt (tbt vs a).2 b).2.length : Int) ≤ _
      omega
    · rw [hg_tn] at hm
      have A := ih _ (by omega) a rfl wa vs
      have B := ih _ (by omega) b rfl wb (tbt vs a).2
      rw [pz_tn6]
      show ((tbt (tbt vs a).2 b).2.length : Int) ≤ _
      omega
    · rw [hg_tn] at hm
      have A := ih _ (by omega) a rfl wa vs
      have z : pz tr_0 = 0 := rfl
      rw [pz_tn (by decide), z]
      show ((tbt vs a).2.length : Int) ≤ _
      omega
  have := gen _ e rfl h []
  have z : (([] : List Nat).length : Int) = 0 := rfl
  unfold nv vl
  omega
theorem nv_lt {e : tr} {k : Nat} (h : wt e) (hv : ∀ v, vin v e → v < k) : nv e ≤ k := by
  have := nd_le (l2 := List.range k) (vl_nd h) (fun x hx => List.mem_range.mpr (hv x ((vl_mem h).1 hx)))
  rw [List.length_range] at this
  unfold nv
  omega
/-- the variables among the first n that are gathered -/
def mlx (σ : mi_Sg) : Nat → List Nat
  | 0 => []
  | n + 1 => mlx σ n ++ (if mi_sA σ 10 (mi_sA σ 15 (n : Int)) = 4 ∨ mi_sA σ 10 (mi_sA σ 15 (n : Int)) = 3 then [(mi_sA σ 15 (n : Int)).toNat] else [])
theorem mlx_len {σ : mi_Sg} : ∀ n : Nat, sm_n (mk_f σ) n = (mlx σ n).length
  | 0 => rfl
  | n + 1 => by
    show sm_n (mk_f σ) n + mk_f σ (n : Int) = ((mlx σ n ++ _).length : Int)
    rw [mlx_len n, List.length_append]
    unfold mk_f
    split <;> simp
theorem mlx_mem {σ : mi_Sg} {v : Nat} : ∀ n : Nat, v ∈ mlx σ n ↔ ∃ i : Nat, i < n ∧ (mi_sA σ 10 (mi_sA σ 15 (i : Int)) = 4 ∨ mi_sA σ 10 (mi_sA σ 15 (i : Int)) = 3) ∧ (mi_sA σ 15 (i : Int)).toNat = v
  | 0 => ⟨fun h => absurd h List.not_mem_nil, fun ⟨i, hi, _⟩ => absurd hi (by omega)⟩
  | n + 1 => by
    show v ∈ mlx σ n ++ _ ↔ _
    rw [List.mem_append, mlx_mem n]
    constructor
    · rintro (⟨i, hi, a, b⟩ | h)
      · exact ⟨i, by omega, a, b⟩
      · split at h
        · rename_i q
          rw [List.mem_singleton] at h
          exact ⟨n, by omega, q, h.symm⟩
        · exact absurd h List.not_mem_nil
    · rintro ⟨i, hi, a, b⟩
      by_cases e : i = n
      · subst e
        right
        rw [if_pos a, List.mem_singleton]
        exact b.symm
      · exact Or.inl ⟨i, by omega, a, b⟩
theorem mlx_nd {σ : mi_Sg} {g : Nat} (pos : ∀ i : Nat, i < g → 0 < mi_sA σ 15 (i : Int)) (inj : ∀ i j : Nat, i < j → j < g → mi_sA σ 15 (i : Int) ≠ mi_sA σ 15 (j : Int)) : ∀ n : Nat, n ≤ g → (mlx σ n).Nodup
  | 0, _ => List.nodup_nil
  | n + 1, h => by
    show (mlx σ n ++ _).Nodup
    rw [List.nodup_append]
    refine ⟨mlx_nd pos inj n (by omega), by split <;> simp, fun x hx y hy e => ?_⟩
    obtain ⟨i, hi, -, b⟩ := (mlx_mem n).1 hx
    split at hy
    · rw [List.mem_singleton] at hy
      have := inj i n hi (by omega)
      have p1 := pos i (by omega)
      have p2 := pos n (by omega)
      omega
    · exact absurd hy List.not_mem_nil
/-- as many as the type has -/
theorem ga_nv {Sx : Int → Prop} {T : Int → tr} {x0 : Int} {σ0 σ : mi_Sg} (E : ga_E Sx x0 σ0 σ) (H : ty_T σ0 Sx T) (hw : wt (T x0)) (hx : Sx x0) (hS : ∀ n, Sx n → ∀ v, vin v (T n) → vin v (T x0)) (hu : 0 < mi_sF σ0 9 8) : sm_n (mk_f σ) (mi_sF σ 9 10).toNat = nv (T x0) := by
  have gg := ga_E_g E hu
  have e10 : mi_sA σ 10 = mi_sA σ0 10 := sg_Af_Ak E.1 (by decide)
  have hx0 := (H.2 x0 hx).1
  rw [mlx_len, nv_of hw (mlx_nd (g := (mi_sF σ 9 10).toNat) (fun i hi => (ga_E_i E (by omega) (by omega)).1.1) (fun i j hij hj => ga_E_inj E (by omega) (by omega) (by omega)) _ (Nat.le_refl _)) (fun v => ?_)]
  rw [mlx_mem]
  constructor
  · rintro ⟨i, hi, a, b⟩
    obtain ⟨p, s, -⟩ := ga_E_i E (i := (i : Int)) (by omega) (by omega)
    have g := (H.2 _ s).2.2.2.2.1 (by rw [e10] at a; exact a.symm)
    refine hS _ s v ?_
    rw [g.1]
    exact b
  · intro hv
    obtain ⟨j, hj, ej⟩ := ga_E_root E hx0.1 hx0.2
    obtain ⟨i, hi, ei, ti⟩ := ga_E_vin E H (v := v) _ j rfl hj.1 hj.2 (by rw [ej]; exact hv)
    refine ⟨i.toNat, by omega, ?_, ?_⟩
    · rw [show ((i.toNat : Nat) : Int) = i by omega, ei, e10]
      exact ti.symm
    · rw [show ((i.toNat : Nat) : Int) = i by omega, ei]
      rfl
