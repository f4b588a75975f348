/-! ===== meet, between calls ===== -/
/-- the most general instance of both -/
def MU (a b r : tr) : Prop := inst a r ∧ inst b r ∧ ∀ c, inst a c → inst b c → inst r c
theorem MU_sym {a b r : tr} (h : MU a b r) : MU b a r := ⟨h.2.1, h.1, fun c x y => h.2.2 c y x⟩
theorem MU_ren {a b r r' : tr} (h : MU a b r) (g : MU a b r') : REN r r' := REN_of (h.2.2 r' g.1 g.2.1) (g.2.2 r h.1 h.2.1)
theorem MU_wl {a b r r' : tr} (h : MU a b r) (g : MU a b r') (w : wt r) : wl r' = wl r := by
  obtain ⟨μ, rfl, -⟩ := MU_ren h g
  exact wl_sbv w
/-- trees of nodes of these tags are types -/
theorem wt_tags {σ : mi_Sg} {Sx : Int → Prop} {T : Int → tr} (H : ty_T σ Sx T) (G : tg7 σ Sx) : ∀ (m : Nat) (n : Int), (ns (T n)).toNat = m → Sx n → wt (T n) := by
  intro m
  induction m using Nat.strongRecOn with
  | ind m ih =>
  intro n hm hn
  obtain ⟨g1, g2, g3, g4, g5, g6, g7⟩ := H.2 n hn
  have t := G n hn
  by_cases q : mi_sA σ 10 n = 3 ∨ mi_sA σ 10 n = 4
  · rw [(g5 q).1]; exact True.intro
  · have e := g6 (fun h => q (Or.inl h)) (fun h => q (Or.inr h))
    have nt := ns_tn (mi_sA σ 10 n) (T (ty_K' σ n 0)) (T (ty_K' σ n 1)) (T (ty_K' σ n 2))
    rw [← e] at nt
    have zk : ∀ k, 0 ≤ k → k < 3 → ar (mi_sA σ 10 n) ≤ k → T (ty_K' σ n k) = tr_0 := fun k k0 k1 h => by
      rw [(g7 k k0 k1).2 h]; exact H.1
    have sk : ∀ k, 0 ≤ k → k < 3 → k < ar (mi_sA σ 10 n) → ns (T (ty_K' σ n k)) < ns (T n) → wt (T (ty_K' σ n k)) := fun k k0 k1 h hl => by
      refine ih _ (by have := ns_0 (T (ty_K' σ n k)); omega) _ rfl ((g4 k k0 k1).resolve_left fun z => ?_)
      have := (g7 k k0 k1).1 z
      omega
    have a1 : ar 1 = 0 := rfl
    have a2 : ar 2 = 0 := rfl
    have a5 : ar 5 = 2 := rfl
    have a6 : ar 6 = 2 := rfl
    have a9 : ar 9 = 1 := rfl
    rw [e]
    rcases t with t | t | t | t | t | t | t
    · rw [t] at zk ⊢
      rw [zk 0 (by omega) (by omega) (by omega), zk 1 (by omega) (by omega) (by omega), zk 2 (by omega) (by omega) (by omega)]
      exact wt_1
    · rw [t] at zk ⊢
      rw [zk 0 (by omega) (by omega) (by omega), zk 1 (by omega) (by omega) (by omega), zk 2 (by omega) (by omega) (by omega)]
      exact wt_2
    · omega
    · omega
    · rw [t] at zk sk ⊢
      rw [zk 2 (by omega) (by omega) (by omega)]
      exact wt_5.2 ⟨sk 0 (by omega) (by omega) (by omega) nt.1, sk 1 (by omega) (by omega) (by omega) nt.2.1⟩
    · rw [t] at zk sk ⊢
      rw [zk 2 (by omega) (by omega) (by omega)]
      exact wt_6.2 ⟨sk 0 (by omega) (by omega) (by omega) nt.1, sk 1 (by omega) (by omega) (by omega) nt.2.1⟩
    · rw [t] at zk sk ⊢
      rw [zk 1 (by omega) (by omega) (by omega), zk 2 (by omega) (by omega) (by omega)]
      exact wt_9.2 (sk 0 (by omega) (by omega) (by omega) nt.1)
section CV
variable {X : mi_X} {d : Nat} {σ σ1 σ2 σ3 : mi_Sg} {ds : List (Int64 × tr)} {ta tb : tr}
/-- behind copies of both and their fits -/
def UM (σ σ3 : mi_Sg) (ta tb : tr) (x z : Int) : Prop := ((z = 0 ∧ ¬ ∃ c, inst ta c ∧ inst tb c) ∨ (z = 1 ∧ ∃ (S : Int → Prop) (T : Int → tr), ty_T σ3 S T ∧ tg7 σ3 S ∧ S (mi_sA σ3 12 x) ∧ MU ta tb (T (mi_sA σ3 12 x)) ∧ wt (T (mi_sA σ3 12 x)) ∧ nv (T (mi_sA σ3 12 x)) ≤ nv ta + nv tb)) ∧ sg_Af [10, 11, 12, 13, 14, 15, 16] [(9, 8), (9, 10), (9, 11)] σ σ3 ∧ (∀ n, 0 < n → n < mi_sF σ 9 9 → mi_sA σ3 10 n = mi_sA σ 10 n ∧ mi_sA σ3 12 n = mi_sA σ 12 n ∧ ∀ k, 0 ≤ k → k < 3 → ty_k σ3 n k = ty_k σ n k) ∧ (ty_Z σ3 ∧ mi_sF σ 9 8 ≤ mi_sF σ3 9 8 ∧ mi_sF σ3 9 11 ≤ mi_sF σ 9 11 + 3 ∧ kb σ3) ∧ 0 < x ∧ x < mi_sF σ3 9 8
theorem meet_fit {a b : Nat} {ka kb' : Int64} {h : mi_H} {R : Int → Int → mi_Sg → Prop} (P : PI σ ds) (hS : ty_H h σ) (ha : ds[a]? = some (ka, ta)) (hb : ds[b]? = some (kb', tb)) (hroom : mi_sF σ 9 8 + pz ta + pz tb ≤ 512) (hr : mi_sF σ 9 11 < 99998000)
    (K : ∀ x z σ3 h3, ty_H h3 σ3 → UM σ σ3 ta tb x z → R x z σ3) : ty_Ci X (d + 9) mi_M122 [(0, .ref 9), (1, .int (Int32.ofInt (mi_sA σ 24 (a : Int)))), (2, .int (Int32.ofInt 0))] σ (fun x σ1 => (mi_sF σ1 17 14 = mi_sF σ 17 14 ∧ mi_sA σ1 24 (b : Int) = mi_sA σ 24 (b : Int)) ∧ ty_Ci X (d + 9) mi_M122 [(0, .ref 9), (1, .int (Int32.ofInt (mi_sA σ 24 (b : Int)))), (2, .int (Int32.ofInt 0))] σ1 (fun y σ2 => ty_Ci X (d + 9) mi_M128 [(0, .ref 9), (1, .int (Int32.ofInt x)), (2, .int (Int32.ofInt y))] σ2 (fun z σ3 => R x z σ3))) := by
  obtain ⟨⟨Sx, T, C, hm⟩, kbb, n14, f9, f0⟩ := id P
  have h13 := (ty_H_f hS).1
  have wa : wt ta := (C.2.2.2.2.2 a _ ha).2.2.2.2.1
  have wb : wt tb := (C.2.2.2.2.2 b _ hb).2.2.2.2.1
  refine two_cp (d := d + 6) (stay := 0) C hm f9 h13 ha hb (Or.inl rfl) hroom (by omega) fun x y σ2 tc => ?_
  obtain ⟨S2, T2, ν, ν', σ1, ⟨H2, Z2, w2, hx, hy, lo⟩, ⟨X1, X2, F, r2, g8⟩, ⟨ex, n1, n2⟩, tb4, -, q0⟩ := tc
  obtain ⟨ey, m1, m2⟩ := q0 rfl
  have X18 := X1.1
  have X12 := ty_X_tr X1 X2
  have e99 : mi_sF σ2 9 9 = mi_sF σ 9 9 := F.2.2 9 9 (by decide)
  have HV := ty_T_vs H2 (fun v => v ∈ (vl ta).map (fun u : Nat => (ν (u : Int)).toNat) ++ (vl tb).map (fun u : Nat => (ν' (u : Int)).toNat))
  have vx : ∀ v, vin v (T2 x) → v ∈ (vl ta).map (fun u : Nat => (ν (u : Int)).toNat) ++ (vl tb).map (fun u : Nat => (ν' (u : Int)).toNat) := fun v hv => by
    rw [ex] at hv
    obtain ⟨u, hu, e⟩ := vin_sb _ hv
    exact List.mem_append_left _ (List.mem_map.mpr ⟨u, (vl_mem wa).2 hu, e⟩)
  have vy : ∀ v, vin v (T2 y) → v ∈ (vl ta).map (fun u : Nat => (ν (u : Int)).toNat) ++ (vl tb).map (fun u : Nat => (ν' (u : Int)).toNat) := fun v hv => by
    rw [ey] at hv
    obtain ⟨u, hu, e⟩ := vin_sb _ hv
    exact List.mem_append_right _ (List.mem_map.mpr ⟨u, (vl_mem wb).2 hu, e⟩)
  have gx := H2.2 x hx
  have gy := H2.2 y hy
  refine ty_Ci_s (ty_fits (d := d + 7) HV Z2 (fun n hn q => by rw [e99]; exact lo n hn.1 q) (by omega) gx.1.1 gx.1.2 gy.1.1 gy.1.2 (by rw [gx.2.1]; exact ⟨hx, vx⟩) (by rw [gy.2.1]; exact ⟨hy, vy⟩)) fun z σ3 h3 S3 Q => ?_
  rw [gx.2.1, gy.2.1] at Q
  have old := ft_old hS X12 F (by decide) f9 HV (fun n hn q => lo n hn.1 q) Q
  have h002 : mi_sA σ2 12 0 = 0 := by
    have a1 := X12.2.2
    rw [a1]; exact (ty_H_u hS).2.2.2
  have Q' := Q
  obtain ⟨F3, fr, Z3, -, -, -, q7⟩ := Q'
  have k8 : mi_sF σ3 9 8 = mi_sF σ2 9 8 := F3.2.2 9 8 (by decide)
  have FF : sg_Af [10, 11, 12, 13, 14, 15, 16] [(9, 8), (9, 10), (9, 11)] σ σ3 := sg_Af_tr F (sg_Af_w F3 (by decide) (by decide))
  have kb3 : kb σ3 := by
    obtain ⟨k1, k2, k3, k4, k5, k6, k7⟩ := kbb
    exact ⟨(FF.2.2 17 12 (by decide)).trans k1, by rw [sg_E FF 18]; exact k2, by rw [sg_E FF 18]; exact k3, by rw [sg_E FF 18]; exact k4, (FF.2.1 19 0 (by decide)).trans k5, (FF.2.1 19 1 (by decide)).trans k6, (FF.2.1 19 2 (by decide)).trans k7⟩
  have un := fun (η η' : Nat → tr) => TC_un (tag := mi_sA σ2 10) η η' (show 0 ≤ mi_sF σ1 9 8 by omega) (fun v hv => ⟨⟨by have := (n1 v hv).1; omega, (n1 v hv).1.2⟩, (n1 v hv).2⟩) n2 m1 m2
  refine K x z σ3 h3 S3 ⟨?_, FF, old, ⟨Z3, by have := X12.1; omega, by omega, kb3⟩, gx.1.1, by omega⟩
  rcases q7 with ⟨e, no⟩ | ⟨e, -⟩
  · refine Or.inl ⟨e, ?_⟩
    rintro ⟨c, ⟨η, hη⟩, ⟨η', hη'⟩⟩
    obtain ⟨θ, f, e1, e2⟩ := un η η'
    exact no θ f (by rw [ex, ey, e1, e2, hη, hη'])
  · subst e
    obtain ⟨θ1, f1, mg, u, HT, w⟩ := ft_T HV Z2 h002 S3 Q
    obtain ⟨wx1, wx2⟩ := w x ⟨hx, vx⟩
    have e10 : mi_sA σ3 10 = mi_sA σ2 10 := sg_Af_Ak F3 (by decide)
    have G7 : tg7 σ3 (ens (fun n => S2 n ∧ ∀ v, vin v (T2 n) → v ∈ (vl ta).map (fun u : Nat => (ν (u : Int)).toNat) ++ (vl tb).map (fun u : Nat => (ν' (u : Int)).toNat)) σ3) := fun n hn => by
      rw [e10]
      exact ty_T_tag H2 hn.1.1 (w2 n hn.1.1)
    have wr := wt_tags HT G7 _ _ rfl wx1
    refine Or.inr ⟨rfl, _, _, HT, G7, wx1, ?_, wr, ?_⟩
    · show MU ta tb (sb θ1 (T2 (mi_sA σ3 12 x)))
      rw [wx2]
      refine ⟨⟨fun v => θ1 (ν (v : Int)).toNat, ?_⟩, ⟨fun v => θ1 (ν' (v : Int)).toNat, ?_⟩, ?_⟩
      · rw [ex, sb_sb]; rfl
      · rw [u, ey, sb_sb]; rfl
      · rintro c ⟨η, hη⟩ ⟨η', hη'⟩
        obtain ⟨θ, f, e1, e2⟩ := un η η'
        refine ⟨θ, ?_⟩
        have mg' := mg θ f (by rw [ex, ey, e1, e2, hη, hη'])
        rw [sb_sb, sb_ext (η := θ) _ (fun v _ => mg' v), ex, e1, hη]
    · have := nd_le (l2 := (vl ta).map (fun u : Nat => (ν (u : Int)).toNat) ++ (vl tb).map (fun u : Nat => (ν' (u : Int)).toNat)) (vl_nd wr) (fun v hv => by
        obtain ⟨s, t⟩ := ty_T_vin HT _ _ rfl wx1 ((vl_mem wr).1 hv)
        have g := (H2.2 _ s.1.1).2.2.2.2.1 (by rw [← e10]; exact t)
        exact s.1.2 v (by rw [g.1]; rfl))
      rw [List.length_append, List.length_map, List.length_map] at this
      unfold nv
      omega
theorem q_meet0 {a b : Nat} {ka kb' : Int64} (P : PI σ ds) (ha : ds[a]? = some (ka, ta)) (hb : ds[b]? = some (kb', tb)) (hroom : mi_sF σ 9 8 + pz ta + pz tb ≤ 512) (hr : mi_sF σ 9 11 < 99998000) (hd : ds.length ≤ 24) (no : ¬ ∃ c, inst ta c ∧ inst tb c) : ty_Ci X (d + 10) mi_M12 [(0, .ref 0), (1, .int (Int32.ofInt (a : Int))), (2, .int (Int32.ofInt (b : Int)))] σ (fun z σ' => z = 0 ∧ PQ σ σ' ds 5) := by
  refine ty_C_S fun h hS => ?_
  have n14 := P.2.2.1
  have la := (List.getElem?_eq_some_iff.mp ha).1
  have lb := (List.getElem?_eq_some_iff.mp hb).1
  refine tl_meet0 (d := d + 8) (by omega) (by omega) (by omega) (by omega) (by omega) (meet_fit (d := d) P hS ha hb hroom hr fun x z σ3 h3 S3 U => ?_)
  obtain ⟨q, FF, old, ⟨Z3, h8, h11, -⟩, -⟩ := U
  have ez : z = 0 := by
    rcases q with q | ⟨-, S, T, -, -, -, m, -⟩
    · exact q.1
    · exact absurd ⟨_, m.1, m.2.1⟩ no
  refine ⟨ez, rfl, ?_⟩
  have F5 : sg_Af [10, 11, 12, 13, 14, 15, 16] [(9, 8), (9, 10), (9, 11), (52, 5)] σ (mi_uF σ3 52 5 0) := sg_Af_F (sg_Af_w FF (by decide) (by decide)) (by decide)
  exact PQ_ft (σ3 := mi_uF σ3 52 5 0) hS (ty_H_u S3).2.2.2 P F5 (by decide) (by decide) (by decide) old Z3 h8 (by show mi_sF σ3 9 11 ≤ _; omega)
theorem q_meet1 {a b : Nat} {ka kb' : Int64} {r : tr} (P : PI σ ds) (ha : ds[a]? = some (ka, ta)) (hb : ds[b]? = some (kb', tb)) (hroom : mi_sF σ 9 8 + pz ta + pz tb ≤ 512) (hr : mi_sF σ 9 11 < 99998000) (hd : ds.length ≤ 24) (m : MU ta tb r) (hw : wt r) (hl : wl r ≤ 400) (hn : nv ta + nv tb ≤ 26) : ty_Ci X (d + 10) mi_M12 [(0, .ref 0), (1, .int (Int32.ofInt (a : Int))), (2, .int (Int32.ofInt (b : Int)))] σ (fun z σ' => z = wl r ∧ PQ σ σ' ds 5 ∧ rwl σ' 53 5 (txt r)) := by
  refine ty_C_S fun h hS => ?_
  have n14 := P.2.2.1
  have la := (List.getElem?_eq_some_iff.mp ha).1
  have lb := (List.getElem?_eq_some_iff.mp hb).1
  refine tl_meet1 (d := d + 8) (by omega) (by omega) (by omega) (by omega) (by omega) (meet_fit (d := d) P hS ha hb hroom hr fun x z σ3 h3 S3 U => ?_)
  obtain ⟨q, FF, old, ⟨Z3, h8, h11, kb3⟩, x0, x1⟩ := U
  rcases q with ⟨-, q⟩ | ⟨ez, S, T, HT, G7, hx, m', wr, hnv⟩
  · exact absurd ⟨_, m.1, m.2.1⟩ q
  refine ⟨ez, ?_⟩
  have ewl := MU_wl m m' hw
  have etx := (txt_ren hw (MU_ren m m')).1
  refine ty_Ci_s (wr_put1 (d := d + 1) Z3 (by omega) HT G7 kb3 x0 x1 hx (by rw [ewl]; exact hl) (by unfold nv vl at hnv; unfold nv vl at hn; omega)) fun w σ4 h4 S4 Q4 => ?_
  obtain ⟨e1, F4, r4, Z4, pp⟩ := Q4
  have FF4 : sg_Af [10, 11, 12, 13, 14, 15, 16, 53, 54] [(9, 8), (9, 10), (9, 11), (52, 4), (52, 5), (52, 6)] σ σ4 := sg_Af_tr (sg_Af_w FF (by decide) (by decide)) (sg_Af_w F4 (by decide) (by decide))
  have pp' : rwl σ4 53 5 (txt r) := by rw [← etx]; exact pp
  refine ⟨e1, ?_, PQ_ft hS (ty_H_u S4).2.2.2 P FF4 (by decide) (by decide) (by decide) (fun n n0 n1 => ?_) Z4 (by rw [F4.2.2 9 8 (by decide)]; exact h8) (by omega), pp'⟩
  · rw [pp'.1, ← txt_wl]
  · obtain ⟨o1, o2, o3⟩ := old n n0 n1
    refine ⟨(F4.2.1 10 n (by decide)).trans o1, (F4.2.1 12 n (by decide)).trans o2, fun k k0 k1 => ?_⟩
    rw [← o3 k k0 k1]
    exact F4.2.1 11 _ (by decide)
theorem q_meetx {a b : Nat} {ka kb' : Int64} (P : PI σ ds) (ha : ds[a]? = some (ka, ta)) (hb : ds[b]? = some (kb', tb)) (hroom : mi_sF σ 9 8 + pz ta + pz tb ≤ 512) (hr : mi_sF σ 9 11 < 99998000) (hd : ds.length ≤ 24) (some' : ∃ c, inst ta c ∧ inst tb c) (long : ∀ r, MU ta tb r → wt r → 400 < wl r) : ∀ h, ty_H h σ → mi_wp X (d + 10) mi_M12 0 [(0, .ref 0), (1, .int (Int32.ofInt (a : Int))), (2, .int (Int32.ofInt (b : Int)))] [] h 0 0 (fun z => ∃ h' σ', z = (.inr 0, h', 1, 6) ∧ ty_H h' σ' ∧ mi_Fm h h' ∧ PQ σ σ' ds 5) := by
  intro h hS
  have n14 := P.2.2.1
  have la := (List.getElem?_eq_some_iff.mp ha).1
  have lb := (List.getElem?_eq_some_iff.mp hb).1
  refine tl_meetx (d := d) (by omega) (by omega) (by omega) (by omega) (by omega) (meet_fit (d := d) P hS ha hb hroom hr fun x z σ3 h3 S3 U => ?_) h hS
  obtain ⟨q, FF, old, ⟨Z3, h8, h11, kb3⟩, x0, x1⟩ := U
  rcases q with ⟨-, q⟩ | ⟨ez, S, T, HT, G7, hx, m', wr, hnv⟩
  · exact absurd some' q
  refine ⟨ez, ?_⟩
  refine ty_Ci_s (wr_put0 (d := d + 1) Z3 (by omega) HT G7 kb3 x0 x1 hx (long _ m' wr)) fun w σ4 h4 S4 Q4 => ?_
  obtain ⟨e1, F4, r4, Z4⟩ := Q4
  have FF4 : sg_Af [10, 11, 12, 13, 14, 15, 16] [(9, 8), (9, 10), (9, 11)] σ σ4 := sg_Af_tr FF (sg_Af_w F4 (by decide) (by decide))
  refine ⟨e1, PQ_ft hS (ty_H_u S4).2.2.2 P FF4 (by decide) (by decide) (by decide) (fun n n0 n1 => ?_) Z4 (by rw [F4.2.2 9 8 (by decide)]; exact h8) (by omega)⟩
  obtain ⟨o1, o2, o3⟩ := old n n0 n1
  refine ⟨(F4.2.1 10 n (by decide)).trans o1, (F4.2.1 12 n (by decide)).trans o2, fun k k0 k1 => ?_⟩
  rw [← o3 k k0 k1]
  exact F4.2.1 11 _ (by decide)
end CV
