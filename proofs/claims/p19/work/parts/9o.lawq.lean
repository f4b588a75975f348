/-! ===== the law's ask, isPaper, meet; what holds between the law's queries (printed by wip/gen/p_law6.py) ===== -/
theorem ty_Ci_w {X : mi_X} {d : Nat} {M : mi_M} {l : mi_L} {σ : mi_Sg} {P P' : Int → mi_Sg → Prop} (H : ty_Ci X d M l σ P) (w : ∀ x σ', P x σ' → P' x σ') : ty_Ci X d M l σ P' := fun h S =>
  mi_wp_q (H h S) (fun _ ⟨v, h', σ', e, g1, g2, x, e2, g3⟩ => ⟨v, h', σ', e, g1, g2, x, e2, w x σ' g3⟩)
def IV (σ : mi_Sg) (ds : List (Int64 × tr)) (r : Int) : Prop := PI σ ds ∧ BB σ ∧ 13 ≤ mi_sF σ 9 9 ∧ mi_sF σ 9 8 ≤ 230 ∧ mi_sF σ 9 11 ≤ r
/-- which definition uses which -/
def US (σ : mi_Sg) : Prop := mi_sA σ 25 72 = 1 ∧ mi_sA σ 25 120 = 1 ∧ mi_sA σ 25 97 = 0
def QI (σ σ' : mi_Sg) (ds : List (Int64 × tr)) (r : Int) : Prop := IV σ' ds r ∧ (US σ → US σ')
theorem QI_tr {a b c : mi_Sg} {ds : List (Int64 × tr)} {r r' : Int} (p : QI a b ds r) (q : QI b c ds r') : QI a c ds r' := ⟨q.1, fun u => q.2 (p.2 u)⟩
theorem QI_PQ {σ σ' : mi_Sg} {ds : List (Int64 × tr)} {r k : Int} (I : IV σ ds r) (q : PQ σ σ' ds k) : QI σ σ' ds (r + k) := by
  obtain ⟨P, B, h13, h8, hr⟩ := I
  obtain ⟨P', Q, e8, e11⟩ := q
  refine ⟨⟨P', BB_q B Q h13, by rw [QF_9 Q]; exact h13, by omega, by omega⟩, fun u => ?_⟩
  have e := fun j => Q.1 25 j (by decide)
  exact ⟨(e _).trans u.1, (e _).trans u.2.1, (e _).trans u.2.2⟩
theorem QI_sg {σ σ' : mi_Sg} {ds : List (Int64 × tr)} {r : Int} (I : IV σ ds r) (F : sg_Af [1] [(0, 10)] σ σ') (e0 : mi_sF σ' 0 10 = 0) : QI σ σ' ds r := by
  obtain ⟨⟨⟨Sx, T, C, hm⟩, K, p1, p2, p3⟩, B, h13, h8, hr⟩ := I
  have e := fun k hk i => F.2.1 k i hk
  have f := fun k j hk => F.2.2 k j hk
  have eE := fun k => sg_E F k
  refine ⟨⟨⟨⟨Sx, T, CI_s C (KS_sg F (by decide) (by decide) (by decide)), fun n hn v hv => by rw [e 10 (by decide)]; exact hm n hn v hv⟩, ?_, by rw [f 17 14 (by decide)]; exact p1, by rw [f 9 9 (by decide), f 9 8 (by decide)]; exact p2, e0⟩, BB_c B (fun i => by rw [eE 18]) (fun i => e 19 (by decide) i) (fun i => by rw [eE 4]) (fun i _ _ => e 11 (by decide) i), by rw [f 9 9 (by decide)]; exact h13, by rw [f 9 8 (by decide)]; exact h8, by rw [f 9 11 (by decide)]; exact hr⟩, fun u => ⟨(e 25 (by decide) _).trans u.1, (e 25 (by decide) _).trans u.2.1, (e 25 (by decide) _).trans u.2.2⟩⟩
  obtain ⟨k1, k2, k3, k4, k5, k6, k7⟩ := K
  exact ⟨by rw [f 17 12 (by decide)]; exact k1, by rw [eE 18]; exact k2, by rw [eE 18]; exact k3, by rw [eE 18]; exact k4, by rw [e 19 (by decide)]; exact k5, by rw [e 19 (by decide)]; exact k6, by rw [e 19 (by decide)]; exact k7⟩
/-- what compile asks of the first nodes -/
theorem BC_of {h : mi_H} {σ : mi_Sg} {ds : List (Int64 × tr)} {r : Int} (S : ty_H h σ) (I : IV σ ds r) : BC σ := by
  obtain ⟨⟨⟨Sx, T, C, hm⟩, K, p1, p2, p3⟩, B, h13, h8, hr⟩ := I
  obtain ⟨H, Z, w, ⟨⟨s1, t1⟩, s2, t2⟩, -⟩ := C
  obtain ⟨z1, z2, z3, z4, z5⟩ := Z
  have tag : ∀ n : Int, Sx n → ∀ k : Int, 0 ≤ k → T n = tn k tr_0 tr_0 tr_0 → mi_sA σ 10 n = k := fun n hn k k0 e => by
    obtain ⟨-, -, ⟨⟨g1, g2⟩, -⟩, -, g5, g6, -⟩ := H.2 n hn
    by_cases q : mi_sA σ 10 n = 3 ∨ mi_sA σ 10 n = 4
    · have := (g5 q).1
      rw [e] at this
      cases this
    · have := g6 (fun z => q (Or.inl z)) (fun z => q (Or.inr z))
      rw [e] at this
      have q1 := (tn_inj this).1
      omega
  refine ⟨⟨z5, tag 1 s1 1 (by decide) t1, tag 2 s2 2 (by decide) t2⟩, ⟨(H.2 1 s1).2.1, (H.2 2 s2).2.1⟩, z4, z1, fun n n0 n1 => z3 n n0 (by omega)⟩
section IQ
variable {X : mi_X} {d : Nat} {σ : mi_Sg} {ds : List (Int64 × tr)} {r : Int} {a b : Nat} {ka kb' : Int64} {ta tb t : tr}
theorem iv_covers (I : IV σ ds r) (hr : r ≤ 99990000) (hd : ds.length ≤ 24) (ha : ds[a]? = some (ka, ta)) (hb : ds[b]? = some (kb', tb)) (room : pz ta + pz tb ≤ 200) : ty_Ci X (d + 80) mi_M7 [(0, .ref 0), (1, .int (Int32.ofInt (a : Int))), (2, .int (Int32.ofInt (b : Int)))] σ (fun z σ' => ((z = 1 ∧ inst ta tb) ∨ (z = 0 ∧ ¬ inst ta tb)) ∧ QI σ σ' ds (r + 3) ∧ PS σ σ') := by
  have I' := I
  obtain ⟨P, B, h13, h8, h11⟩ := I
  exact ty_Ci_w (q_covers (d := d + 76) P ha hb (by omega) (by omega) hd) (fun x σ' q => ⟨q.1, QI_PQ I' q.2.1, q.2.2⟩)
theorem iv_parts (I : IV σ ds r) (hr : r ≤ 99990000) (hd : ds.length ≤ 24) (ha : ds[a]? = some (ka, t)) (hp : pz t ≤ 100) : ty_Ci X (d + 80) mi_M10 [(0, .ref 0), (1, .int (Int32.ofInt (a : Int))), (2, .int (Int32.ofInt 0))] σ (fun x σ' => x = pz t ∧ QI σ σ' ds (r + 1) ∧ PS σ σ') := by
  have I' := I
  obtain ⟨P, B, h13, h8, h11⟩ := I
  exact ty_Ci_w (q_parts (d := d + 76) P ha (by omega) (by omega) hd) (fun x σ' q => ⟨q.1, QI_PQ I' q.2.1, q.2.2⟩)
theorem iv_rank (I : IV σ ds r) (hr : r ≤ 99990000) (hd : ds.length ≤ 24) (ha : ds[a]? = some (ka, t)) (hp : pz t ≤ 100) : ty_Ci X (d + 80) mi_M10 [(0, .ref 0), (1, .int (Int32.ofInt (a : Int))), (2, .int (Int32.ofInt 2))] σ (fun x σ' => x = rk t ∧ QI σ σ' ds (r + 1) ∧ PS σ σ') := by
  have I' := I
  obtain ⟨P, B, h13, h8, h11⟩ := I
  exact ty_Ci_w (q_rank (d := d + 76) P ha (by omega) (by omega) hd) (fun x σ' q => ⟨q.1, QI_PQ I' q.2.1, q.2.2⟩)
theorem iv_marks (I : IV σ ds r) (hr : r ≤ 99990000) (hd : ds.length ≤ 24) (ha : ds[a]? = some (ka, t)) : ty_Ci X (d + 80) mi_M10 [(0, .ref 0), (1, .int (Int32.ofInt (a : Int))), (2, .int (Int32.ofInt 1))] σ (fun x σ' => x = nv t ∧ QI σ σ' ds (r + 1) ∧ PS σ σ') := by
  have I' := I
  obtain ⟨P, B, h13, h8, h11⟩ := I
  exact ty_Ci_w (q_marks (d := d + 76) P ha (by omega) hd) (fun x σ' q => ⟨q.1, QI_PQ I' q.2.1, q.2.2⟩)
theorem iv_write (I : IV σ ds r) (hr : r ≤ 99990000) (hd : ds.length ≤ 24) (ha : ds[a]? = some (ka, t)) (hl : wl t ≤ 400) (hn : nv t ≤ 26) : ty_Ci X (d + 80) mi_M15 [(0, .ref 0), (1, .int (Int32.ofInt (a : Int)))] σ (fun x σ' => x = wl t ∧ QI σ σ' ds (r + 1) ∧ rwl σ' 53 5 (txt t)) := by
  have I' := I
  obtain ⟨P, B, h13, h8, h11⟩ := I
  exact ty_Ci_w (q_write (d := d + 71) P ha hl hn (by omega) hd) (fun x σ' q => ⟨q.1, QI_PQ I' q.2.1, q.2.2⟩)
theorem MU_rf (t : tr) : MU t t t := ⟨inst_rf t, inst_rf t, fun c h _ => h⟩
theorem iv_meet (I : IV σ ds r) (hr : r ≤ 99990000) (hd : ds.length ≤ 24) (ha : ds[a]? = some (ka, t)) (hw : wt t) (hl : wl t ≤ 400) (hp : pz t ≤ 100) (hn : nv t ≤ 13) : ty_Ci X (d + 80) mi_M12 [(0, .ref 0), (1, .int (Int32.ofInt (a : Int))), (2, .int (Int32.ofInt (a : Int)))] σ (fun x σ' => x = wl t ∧ QI σ σ' ds (r + 5) ∧ rwl σ' 53 5 (txt t)) := by
  have I' := I
  obtain ⟨P, B, h13, h8, h11⟩ := I
  exact ty_Ci_w (q_meet1 (d := d + 70) P ha ha (by omega) (by omega) hd (MU_rf t) hw hl (by omega)) (fun x σ' q => ⟨q.1, QI_PQ I' q.2.1, q.2.2⟩)
/-- what the law's meet tells -/
def MEQ (ta tb : tr) (x : Int) (σ' : mi_Sg) : Prop := (x = 0 ∧ ¬ ∃ c, inst ta c ∧ inst tb c) ∨ (∃ r, MU ta tb r ∧ wt r ∧ wl r ≤ 400 ∧ x = wl r) ∨ (x = -3 ∧ (∃ c, inst ta c ∧ inst tb c) ∧ ∀ r, MU ta tb r → wt r → 400 < wl r)
theorem MEQ_sym {x y : Int} {σ1 σ2 : mi_Sg} (p : MEQ ta tb x σ1) (q : MEQ tb ta y σ2) : x = y := by
  rcases p with ⟨rfl, n1⟩ | ⟨r1, m1, w1, l1, rfl⟩ | ⟨rfl, ⟨c, c1, c2⟩, g1⟩
  · rcases q with ⟨rfl, -⟩ | ⟨r2, m2, w2, l2, rfl⟩ | ⟨rfl, ⟨c, c1, c2⟩, g2⟩
    · rfl
    · exact (n1 ⟨r2, m2.2.1, m2.1⟩).elim
    · exact (n1 ⟨c, c2, c1⟩).elim
  · rcases q with ⟨rfl, n2⟩ | ⟨r2, m2, w2, l2, rfl⟩ | ⟨rfl, -, g2⟩
    · exact (n2 ⟨r1, m1.2.1, m1.1⟩).elim
    · exact (MU_wl m1 (MU_sym m2) w1).symm
    · have := g2 r1 (MU_sym m1) w1
      omega
  · rcases q with ⟨rfl, n2⟩ | ⟨r2, m2, w2, l2, rfl⟩ | ⟨rfl, -, g2⟩
    · exact (n2 ⟨c, c2, c1⟩).elim
    · have := g1 r2 (MU_sym m2) w2
      omega
    · rfl
theorem MEQ_0 {x : Int} {σ1 : mi_Sg} (p : MEQ ta tb x σ1) (h : inst ta tb) : x ≠ 0 := by
  rcases p with ⟨rfl, n1⟩ | ⟨r1, m1, w1, l1, rfl⟩ | ⟨rfl, -⟩
  · exact (n1 ⟨tb, h, inst_rf tb⟩).elim
  · have := (wl_2 w1).1
    omega
  · decide
theorem MEQ_R {x : Int} {σ1 : mi_Sg} (p : MEQ ta tb x σ1) : mi_R x := by
  rcases p with ⟨rfl, n1⟩ | ⟨r1, m1, w1, l1, rfl⟩ | ⟨rfl, -⟩
  · exact ⟨by decide, by decide⟩
  · have := (wl_2 w1).1
    exact ⟨by omega, by omega⟩
  · exact ⟨by decide, by decide⟩
theorem lw_meet {h : mi_H} (S : ty_H h σ) (I : IV σ ds r) (hr : r ≤ 99990000) (hd : ds.length ≤ 24) (ha : ds[a]? = some (ka, ta)) (hb : ds[b]? = some (kb', tb)) (hp : pz ta + pz tb ≤ 200) (hn : nv ta + nv tb ≤ 26) : LCi X (d + 81) mi_M173 [(0, .ref 0), (1, .int (Int32.ofInt (a : Int))), (2, .int (Int32.ofInt (b : Int)))] h 1 6 (fun x h' => ∃ σ', ty_H h' σ' ∧ mi_Fm h h' ∧ MEQ ta tb x σ' ∧ QI σ σ' ds (r + 5)) := by
  have I' := I
  obtain ⟨P, B, h13, h8, h11⟩ := I
  have key : mi_wp X (d + 80) mi_M12 0 [(0, .ref 0), (1, .int (Int32.ofInt (a : Int))), (2, .int (Int32.ofInt (b : Int)))] [] h 0 0 (fun z => ∃ h' σ', ty_H h' σ' ∧ mi_Fm h h' ∧ QI σ σ' ds (r + 5) ∧ ((z = (.inr 0, h', 1, 6) ∧ MEQ ta tb (-3) σ') ∨ ∃ x, z = (.inl (some (.int (Int32.ofInt x))), h', 0, 0) ∧ MEQ ta tb x σ')) := by
    by_cases c : ∃ c, inst ta c ∧ inst tb c
    · by_cases l : ∃ r', MU ta tb r' ∧ wt r' ∧ wl r' ≤ 400
      · obtain ⟨r', m, w, l⟩ := l
        refine mi_wp_q (q_meet1 (d := d + 70) P ha hb (by omega) (by omega) hd m w l hn h S) (fun z ⟨v, h', σ', e, g1, g2, x, e2, g3⟩ => ⟨h', σ', g1, g2, QI_PQ I' g3.2.1, Or.inr ⟨x, by rw [e, e2], Or.inr (Or.inl ⟨r', m, w, l, g3.1⟩)⟩⟩)
      · have long : ∀ r', MU ta tb r' → wt r' → 400 < wl r' := fun r' m w => Decidable.byContradiction (fun q => l ⟨r', m, w, by omega⟩)
        refine mi_wp_q (q_meetx (d := d + 70) P ha hb (by omega) (by omega) hd c long h S) (fun z ⟨h', σ', e, g1, g2, g3⟩ => ⟨h', σ', g1, g2, QI_PQ I' g3, Or.inl ⟨e, Or.inr (Or.inr ⟨rfl, c, long⟩)⟩⟩)
    · refine mi_wp_q (q_meet0 (d := d + 70) P ha hb (by omega) (by omega) hd c h S) (fun z ⟨v, h', σ', e, g1, g2, x, e2, g3⟩ => ⟨h', σ', g1, g2, QI_PQ I' g3.2, Or.inr ⟨x, by rw [e, e2], Or.inl ⟨g3.1, c⟩⟩⟩)
  unfold LCi LC
  refine mi_wp_p (pc' := 1) (st' := [.ref 0]) rfl rfl rfl ?_
  refine mi_wp_p (pc' := 2) (st' := [.int (Int32.ofInt (a : Int)), .ref 0]) rfl rfl rfl ?_
  refine mi_wp_p (pc' := 3) (st' := [.int (Int32.ofInt (b : Int)), .int (Int32.ofInt (a : Int)), .ref 0]) rfl rfl rfl ?_
  refine mi_wp_c rfl rfl rfl rfl rfl rfl (mi_cal_v2 (np := 2) (args := [.ref 0, .int (Int32.ofInt (a : Int)), .int (Int32.ofInt (b : Int))]) (rest := []) rfl rfl rfl rfl rfl (Nat.le_of_ble_eq_true rfl) rfl rfl (Nat.le_of_ble_eq_true rfl) (ty_rcS S (List.mem_of_getElem? (i := 0) rfl))) (Nat.le_of_ble_eq_true rfl) key (fun v h' c' s' Hq => ?_) (fun x h' c' s' Hq => ?_)
  · obtain ⟨h2, σ', g1, g2, g3, ⟨e, -⟩ | ⟨x, e, m⟩⟩ := Hq
    · cases e
    · cases e
      exact ls_ri rfl rfl rfl (mi_ret_i rfl) (by decide) (by decide) ⟨σ', g1, g2, m, g3⟩
  · obtain ⟨h2, σ', g1, g2, g3, ⟨e, m⟩ | ⟨x, e, m⟩⟩ := Hq
    · cases e
      refine ⟨rfl, 7, rfl, ?_⟩
      refine mi_wp_p (pc' := 8) (l' := [(3, .float 0), (0, .ref 0), (1, .int (Int32.ofInt (a : Int))), (2, .int (Int32.ofInt (b : Int)))]) (st' := []) rfl rfl rfl ?_
      refine mi_s_k (pc' := 10) (e := -3) rfl rfl rfl (by decide +kernel) ?_
      exact ls_ri rfl rfl rfl (mi_ret_i rfl) (by decide) (by decide) ⟨σ', g1, g2, m, g3⟩
    · cases e
/-- a row that holds just these bytes -/
def LB (h : mi_H) (a : Nat) (l : List Int) : Prop := ∃ g, LA h a l.length g ∧ ∀ (i : Nat) (b : Int), l[i]? = some b → g i = b
theorem LB_lt {h : mi_H} {a : Nat} {l : List Int} (A : LB h a l) : a < h.length := by
  obtain ⟨g, A, -⟩ := A
  exact LA_lt A
theorem LB_M {h h' : mi_H} {a : Nat} {l : List Int} (A : LB h a l) (f : mi_Fm h h') (ha : 55 ≤ a) : LB h' a l := by
  obtain ⟨g, A, q⟩ := A
  exact ⟨g, LA_M A f ha, q⟩
theorem LB_G {h h' : mi_H} {a : Nat} {l : List Int} (A : LB h a l) (f : LG h h' []) (ha : 55 ≤ a) : LB h' a l := by
  obtain ⟨g, A, q⟩ := A
  exact ⟨g, LA_G A f ha (by simp), q⟩
theorem LB_F {h h' : mi_H} {a : Nat} {l : List Int} {w : List Nat} (A : LB h a l) (f : LF h h' w) (hn : a ∉ w) : LB h' a l := by
  obtain ⟨g, A, q⟩ := A
  exact ⟨g, LA_F A f hn, q⟩
end IQ
section LW
variable {X : mi_X} {d a : Nat} {h : mi_H} {σ : mi_Sg} {l l' : List Int}
theorem pap_no {n m c s Cc T : Nat} {g : Nat → Int} {P : Int → mi_H → Prop} (S : ty_H h σ) (A : LA h a n g) (a55 : 55 ≤ a) (hn : n ≤ 400) (e0 : mi_sF σ 52 5 = (m : Int)) (hm : m ≤ 400) (ne : (m : Int) ≠ n) (hc : c ≤ Cc) (hs : s ≤ T) (k0 : ∀ h', ty_H h' σ → mi_Fm h h' → P 0 h') : mi_wp X (d + 3) mi_M171 0 [(0, .ref 0), (1, .ref a)] [] h c s (fun z => ∃ v h' c' s', z = (.inl v, h', c', s') ∧ c' ≤ Cc ∧ s' ≤ T ∧ ∃ x, v = some (.int (Int32.ofInt x)) ∧ P x h') := by
  have fm := mi_Fm_rf h
  refine mi_wp_p (pc' := 1) (st' := [.ref 0]) rfl rfl rfl ?_
  refine mi_wp_p (pc' := 2) (st' := [.int (Int32.ofInt 4), .ref 0]) rfl rfl rfl ?_
  refine ls_ti rfl rfl rfl rfl rfl rfl (mi_cal_v2 (np := 1) (args := [.ref 0, .int (Int32.ofInt 4)]) (rest := []) rfl rfl rfl rfl rfl (Nat.le_of_ble_eq_true rfl) rfl rfl (Nat.le_of_ble_eq_true rfl) (ty_rcS S (List.mem_of_getElem? (i := 0) rfl))) (Nat.le_of_ble_eq_true rfl) S tl_count4 ?_
  intro x hh σ1 S f P
  obtain ⟨P, P2⟩ := P
  rw [P2] at S
  clear P2
  replace A := LA_M A f a55
  replace fm := mi_Fm_tr fm f
  rw [P, e0]
  clear P
  refine mi_wp_p (pc' := 6) (st' := [.ref a, .int (Int32.ofInt (m : Int))]) rfl rfl rfl ?_
  refine ls_len A rfl rfl ?_
  refine mi_s_if2 (t := 12) rfl rfl rfl (by unfold mi_R; omega) (by unfold mi_R; omega) (fun hc_ => absurd (show (m : Int) = (n : Int) from hc_) (by omega)) (fun _ => ?_)
  refine mi_wp_p (pc' := 11) (st' := [.int (Int32.ofInt 0)]) rfl rfl rfl ?_
  exact ls_ri rfl rfl rfl rfl hc hs (k0 _ S fm)
theorem pap_go {n m c s : Nat} {g : Nat → Int} {Q : mi_Z → Prop} (S : ty_H h σ) (A : LA h a n g) (a55 : 55 ≤ a) (hn : n ≤ 400) (e0 : mi_sF σ 52 5 = (m : Int)) (hm : m ≤ 400) (ne : (m : Int) = n) (kk : ∀ h', ty_H h' σ → mi_Fm h h' → LA h' a n g → mi_wp X (d + 3) mi_M171 14 [(2, .int (Int32.ofInt 0)), (0, .ref 0), (1, .ref a)] [] h' c s Q) : mi_wp X (d + 3) mi_M171 0 [(0, .ref 0), (1, .ref a)] [] h c s Q := by
  have fm := mi_Fm_rf h
  refine mi_wp_p (pc' := 1) (st' := [.ref 0]) rfl rfl rfl ?_
  refine mi_wp_p (pc' := 2) (st' := [.int (Int32.ofInt 4), .ref 0]) rfl rfl rfl ?_
  refine ls_ti rfl rfl rfl rfl rfl rfl (mi_cal_v2 (np := 1) (args := [.ref 0, .int (Int32.ofInt 4)]) (rest := []) rfl rfl rfl rfl rfl (Nat.le_of_ble_eq_true rfl) rfl rfl (Nat.le_of_ble_eq_true rfl) (ty_rcS S (List.mem_of_getElem? (i := 0) rfl))) (Nat.le_of_ble_eq_true rfl) S tl_count4 ?_
  intro x hh σ1 S f P
  obtain ⟨P, P2⟩ := P
  rw [P2] at S
  clear P2
  replace A := LA_M A f a55
  replace fm := mi_Fm_tr fm f
  rw [P, e0]
  clear P
  refine mi_wp_p (pc' := 6) (st' := [.ref a, .int (Int32.ofInt (m : Int))]) rfl rfl rfl ?_
  refine ls_len A rfl rfl ?_
  refine mi_s_if2 (t := 12) rfl rfl rfl (by unfold mi_R; omega) (by unfold mi_R; omega) (fun _ => ?_) (fun hc_ => absurd (show (m : Int) = (n : Int) by omega) hc_)
  refine mi_wp_p (pc' := 13) (st' := [.int (Int32.ofInt 0)]) rfl rfl rfl ?_
  refine mi_wp_p (pc' := 14) (l' := [(2, .int (Int32.ofInt 0)), (0, .ref 0), (1, .ref a)]) (st' := []) rfl rfl rfl ?_
  exact kk _ S fm A
theorem pap_turn {n m c s Cc T : Nat} {g : Nat → Int} {k p q : Int} {P : Int → mi_H → Prop} (S : ty_H h σ) (A : LA h a n g) (a55 : 55 ≤ a) (hn : n ≤ 400) (e0 : mi_sF σ 52 5 = (n : Int)) (hk : 0 ≤ k ∧ k < n) (ep : mi_sA σ 53 k = p) (eq : g k.toNat = q) (hp : 0 ≤ p ∧ p < 128) (hq : 0 ≤ q ∧ q < 128) (hc : c ≤ Cc) (hs : s ≤ T) (k0 : p ≠ q → ∀ h', ty_H h' σ → mi_Fm h h' → P 0 h') (kk : p = q → ∀ h', ty_H h' σ → mi_Fm h h' → LA h' a n g → mi_wp X (d + 3) mi_M171 14 [(2, .int (Int32.ofInt (k + 1))), (0, .ref 0), (1, .ref a)] [] h' c s (fun z => ∃ v h' c' s', z = (.inl v, h', c', s') ∧ c' ≤ Cc ∧ s' ≤ T ∧ ∃ x, v = some (.int (Int32.ofInt x)) ∧ P x h')) : mi_wp X (d + 3) mi_M171 14 [(2, .int (Int32.ofInt k)), (0, .ref 0), (1, .ref a)] [] h c s (fun z => ∃ v h' c' s', z = (.inl v, h', c', s') ∧ c' ≤ Cc ∧ s' ≤ T ∧ ∃ x, v = some (.int (Int32.ofInt x)) ∧ P x h') := by
  have fm := mi_Fm_rf h
  refine mi_wp_p (pc' := 15) (st' := [.int (Int32.ofInt k)]) rfl rfl rfl ?_
  refine mi_wp_p (pc' := 16) (st' := [.ref a, .int (Int32.ofInt k)]) rfl rfl rfl ?_
  refine ls_len A rfl rfl ?_
  refine mi_s_if2 (t := 39) rfl rfl rfl (by unfold mi_R; omega) (by unfold mi_R; omega) (fun hc_ => absurd (show (n : Int) ≤ k from hc_) (by omega)) (fun _ => ?_)
  refine mi_wp_p (pc' := 21) (st' := [.ref 0]) rfl rfl rfl ?_
  refine mi_wp_p (pc' := 22) (st' := [.int (Int32.ofInt k), .ref 0]) rfl rfl rfl ?_
  refine ls_ti rfl rfl rfl rfl rfl rfl (mi_cal_v2 (np := 1) (args := [.ref 0, .int (Int32.ofInt k)]) (rest := []) rfl rfl rfl rfl rfl (Nat.le_of_ble_eq_true rfl) rfl rfl (Nat.le_of_ble_eq_true rfl) (ty_rcS S (List.mem_of_getElem? (i := 0) rfl))) (Nat.le_of_ble_eq_true rfl) S (tl_byteAt (by omega) (by omega) (by omega)) ?_
  intro x hh σ1 S f P
  obtain ⟨P, P2⟩ := P
  rw [P2] at S
  clear P2
  replace A := LA_M A f a55
  replace fm := mi_Fm_tr fm f
  rw [P, ep]
  clear P
  refine mi_wp_p (pc' := 26) (st' := [.ref a, .int (Int32.ofInt p)]) rfl rfl rfl ?_
  refine mi_wp_p (pc' := 27) (st' := [.int (Int32.ofInt k), .ref a, .int (Int32.ofInt p)]) rfl rfl rfl ?_
  refine ls_ald (x := q) A rfl rfl (by omega) (by omega) (by omega) eq ?_
  refine mi_s_if2 (t := 33) rfl rfl rfl (by unfold mi_R; omega) (by unfold mi_R; omega) ?_ ?_
  · intro (c1 : p = q)
    refine mi_s_inc (l' := [(2, .int (Int32.ofInt (k + 1))), (0, .ref 0), (1, .ref a)]) rfl rfl rfl (by decide) rfl ?_
    refine mi_wp_p (pc' := 14) rfl rfl rfl ?_
    exact kk (by omega) _ S fm A
  · intro (c1 : ¬ (p = q))
    refine mi_wp_p (pc' := 32) (st' := [.int (Int32.ofInt 0)]) rfl rfl rfl ?_
    exact ls_ri rfl rfl rfl rfl hc hs (k0 (by omega) _ S fm)
theorem pap_end {n c s Cc T : Nat} {g : Nat → Int} {k : Int} {P : Int → mi_H → Prop} (S : ty_H h σ) (A : LA h a n g) (a55 : 55 ≤ a) (hn : n ≤ 400) (hk : k = n) (hc : c ≤ Cc) (hs : s ≤ T) (k1 : ∀ h', ty_H h' σ → mi_Fm h h' → P 1 h') : mi_wp X (d + 3) mi_M171 14 [(2, .int (Int32.ofInt k)), (0, .ref 0), (1, .ref a)] [] h c s (fun z => ∃ v h' c' s', z = (.inl v, h', c', s') ∧ c' ≤ Cc ∧ s' ≤ T ∧ ∃ x, v = some (.int (Int32.ofInt x)) ∧ P x h') := by
  have fm := mi_Fm_rf h
  refine mi_wp_p (pc' := 15) (st' := [.int (Int32.ofInt k)]) rfl rfl rfl ?_
  refine mi_wp_p (pc' := 16) (st' := [.ref a, .int (Int32.ofInt k)]) rfl rfl rfl ?_
  refine ls_len A rfl rfl ?_
  refine mi_s_if2 (t := 39) rfl rfl rfl (by unfold mi_R; omega) (by unfold mi_R; omega) (fun _ => ?_) (fun hc_ => absurd (show (n : Int) ≤ k by omega) hc_)
  refine mi_wp_p (pc' := 40) (st' := [.int (Int32.ofInt 1)]) rfl rfl rfl ?_
  exact ls_ri rfl rfl rfl rfl hc hs (k1 _ S fm)
/-- isPaper: whether the row's bytes are the paper's -/
theorem lw_paper (S : ty_H h σ) (A : LB h a l') (a55 : 55 ≤ a) (p : rwl σ 53 5 l) (hl : l.length ≤ 400) (hl' : l'.length ≤ 400) (hb : ∀ b ∈ l, 0 ≤ b ∧ b < 128) (hb' : ∀ b ∈ l', 0 ≤ b ∧ b < 128) : LCi X (d + 3) mi_M171 [(0, .ref 0), (1, .ref a)] h 0 0 (fun x h' => ((x = 1 ∧ l = l') ∨ (x = 0 ∧ l ≠ l')) ∧ ty_H h' σ ∧ mi_Fm h h') := by
  obtain ⟨g, A, ag⟩ := A
  obtain ⟨p0, pb⟩ := p
  unfold LCi LC
  by_cases e : l.length = l'.length
  · refine pap_go S A a55 hl' p0 hl (by omega) (fun h1 S1 f1 A1 => ?_)
    have loop : ∀ (m k : Nat), m + k = l'.length → (∀ j, j < k → l[j]? = l'[j]?) → ∀ h1, ty_H h1 σ → mi_Fm h h1 → LA h1 a l'.length g → mi_wp X (d + 3) mi_M171 14 [(2, .int (Int32.ofInt (k : Int))), (0, .ref 0), (1, .ref a)] [] h1 0 0 (fun z => ∃ v h' c' s', z = (.inl v, h', c', s') ∧ c' ≤ 0 ∧ s' ≤ 0 ∧ ∃ x, v = some (.int (Int32.ofInt x)) ∧ ((x = 1 ∧ l = l') ∨ (x = 0 ∧ l ≠ l')) ∧ ty_H h' σ ∧ mi_Fm h h') := by
      intro m
      induction m with
      | zero =>
        intro k hk hj h1 S1 f1 A1
        refine pap_end (P := fun x h' => ((x = 1 ∧ l = l') ∨ (x = 0 ∧ l ≠ l')) ∧ ty_H h' σ ∧ mi_Fm h h') S1 A1 a55 hl' (by omega) (Nat.le_refl _) (Nat.le_refl _) (fun h2 S2 f2 => ⟨Or.inl ⟨rfl, ?_⟩, S2, mi_Fm_tr f1 f2⟩)
        refine List.ext_getElem? (fun i => ?_)
        by_cases hi : i < k
        · exact hj i hi
        · rw [List.getElem?_eq_none (by omega), List.getElem?_eq_none (by omega)]
      | succ m ih =>
        intro k hk hj h1 S1 f1 A1
        have h1k : k < l.length := by omega
        have h2k : k < l'.length := by omega
        refine pap_turn (P := fun x h' => ((x = 1 ∧ l = l') ∨ (x = 0 ∧ l ≠ l')) ∧ ty_H h' σ ∧ mi_Fm h h') (m := 0) (p := l[k]) (q := l'[k]) S1 A1 a55 hl' (by omega) (by omega) (pb k _ (List.getElem?_eq_getElem h1k)) (by rw [Int.toNat_natCast]; exact ag k _ (List.getElem?_eq_getElem h2k)) (hb _ (List.getElem_mem h1k)) (hb' _ (List.getElem_mem h2k)) (Nat.le_refl _) (Nat.le_refl _) (fun ne h2 S2 f2 => ⟨Or.inr ⟨rfl, fun q => ne (by subst q; rfl)⟩, S2, mi_Fm_tr f1 f2⟩) (fun eq h2 S2 f2 A2 => ?_)
        rw [show (k : Int) + 1 = ((k + 1 : Nat) : Int) by omega]
        refine ih (k + 1) (by omega) (fun j hjk => ?_) h2 S2 (mi_Fm_tr f1 f2) A2
        by_cases ejk : j = k
        · subst ejk
          rw [List.getElem?_eq_getElem h1k, List.getElem?_eq_getElem h2k, eq]
        · exact hj j (by omega)
    exact loop l'.length 0 (by omega) (fun j hj => by omega) h1 S1 f1 A1
  · exact pap_no (P := fun x h' => ((x = 1 ∧ l = l') ∨ (x = 0 ∧ l ≠ l')) ∧ ty_H h' σ ∧ mi_Fm h h') S A a55 hl' p0 hl (by omega) (Nat.le_refl _) (Nat.le_refl _) (fun h2 S2 f2 => ⟨Or.inr ⟨rfl, fun q => e (by rw [q])⟩, S2, f2⟩)
theorem LT_0 {h : mi_H} {u n : Nat} (A : LA h u n (fun _ => 0)) : LT h u n [] := ⟨_, A, rfl, fun i b hb => by cases hb⟩
theorem ask_lay {q : Nat} {bs : List Int} {Q : mi_Z → Prop} (S : ty_H h σ) (Hs : STR X q bs) (hlen : ([] : List Int).length + bs.length < 900) (hz : ([] ++ bs).length < 900 ∧ ([] ++ bs).length ≤ 1180) (h0 : 0 < ([] ++ bs).length) (hb : ∀ b ∈ [] ++ bs, 0 ≤ b ∧ b < 128) (s0 : mi_sF σ 0 10 = 0)
    (kk : ∀ h' σ' c s, ty_H h' σ' → LG h h' [] → LYQ σ ([] ++ bs) σ' → c ≤ 61 → s ≤ 1200 → mi_wp X (d + 5) mi_M167 19 [(2, .ref h.length), (0, .ref 0), (1, .retAddr q)] [] h' c s Q) : mi_wp X (d + 5) mi_M167 0 [(0, .ref 0), (1, .retAddr q)] [] h 0 0 Q := by
  have l55 := ty_H_55 S
  have fr := LG_rf h []
  refine mi_s_k (pc' := 3) (e := 900) rfl rfl rfl (by decide +kernel) ?_
  refine ls_new rfl rfl (by omega) (by omega) ?_
  intro h2_ u e_u A_u f e2_u
  clear e2_u
  replace S := ty_H_F0 S f
  replace fr := LG_tr0 fr (LG_F f)
  have u55 : 55 ≤ u := by omega
  have hu : h.length ≤ u := by omega
  refine mi_wp_p (pc' := 6) (l' := [(2, .ref u), (0, .ref 0), (1, .retAddr q)]) (st' := []) rfl rfl rfl ?_
  refine mi_wp_p (pc' := 7) (st' := [.ref u]) rfl rfl rfl ?_
  refine mi_wp_p (pc' := 8) (st' := [.retAddr q, .ref u]) rfl rfl rfl ?_
  refine ls_cv rfl rfl rfl rfl rfl rfl (mi_cal_s2 (np := 2) (args := [.ref u, .retAddr q]) (rest := []) rfl rfl rfl (Or.inl rfl) rfl (Nat.le_of_ble_eq_true rfl) rfl rfl (Nat.le_of_ble_eq_true rfl)) (Nat.le_of_ble_eq_true rfl) (lw_puts Hs (LT_0 A_u) hlen (by decide)) ?_
  intro hh c_ s_ hc hs P
  obtain rfl : c_ = 0 := by omega
  obtain rfl : s_ = 0 := by omega
  obtain ⟨T_u, f⟩ := P
  replace S := ty_H_F1 S f u55
  replace fr := LG_tr1 fr (LG_F f) (Or.inr (by omega))
  clear A_u
  refine mi_wp_p (pc' := 12) (st' := [.ref 0]) rfl rfl rfl ?_
  refine mi_wp_p (pc' := 13) (st' := [.ref u, .ref 0]) rfl rfl rfl ?_
  refine ls_ci rfl rfl rfl rfl rfl rfl (mi_cal_s2 (np := 2) (args := [.ref 0, .ref u]) (rest := []) rfl rfl rfl (Or.inl rfl) rfl (Nat.le_of_ble_eq_true rfl) rfl rfl (Nat.le_of_ble_eq_true rfl)) (Nat.le_of_ble_eq_true rfl) (lw_lay S T_u u55 (by decide) hz h0 hb s0) ?_
  intro x hh c1_ s1_ hc1 hs1 P
  obtain ⟨P, f, σ1, S1, Q1⟩ := P
  replace fr := LG_tr0 fr f
  rw [P]
  clear P
  refine mi_s_if1 (t := 26) rfl rfl rfl (by unfold mi_R; omega) (fun hc_ => absurd (show (1 : Int) = 0 from hc_) (by omega)) (fun _ => ?_)
  subst e_u; exact kk _ σ1 _ _ S1 fr Q1 (by omega) (by omega)
/-- ask for a definition by its name -/
theorem lw_ask {ds : List (Int64 × tr)} {r : Int} {a c q : Nat} {t : tr} (S : ty_H h σ) (I : IV σ ds r) (hr : r ≤ 99990000) (hd : ds.length ≤ 24) (Hs : STR X q (tokB c)) (ha : ds[a]? = some (tokY c, t)) (hc : c < 30) (hk : tokK c = 13) (hlb : (tokB c).length ≤ 10) (hd1 : ∀ (j : Nat) (q : Int64 × tr), j < a → ds[j]? = some q → q.1 ≠ tokY c) (hp : pz t ≤ 100) (hl : wl t ≤ 400) (hn : nv t ≤ 26) : LCi X (d + 81) mi_M167 [(0, .ref 0), (1, .retAddr q)] h 61 1200 (fun x h' => x = 0 ∧ LG h h' [] ∧ ∃ σ', ty_H h' σ' ∧ QI σ σ' ds (r + 3) ∧ rwl σ' 53 5 (txt t)) := by
  obtain ⟨l0, -, l1⟩ := tok_all ⟨c, hc⟩
  dsimp only at l0 l1
  unfold LCi LC
  refine ask_lay (d := d + 76) S Hs (by simp; omega) (by simp; omega) (by simpa using l0) (fun b hb => ?_) I.1.2.2.2.2 (fun h1 σ1 c1 s1 S1 f1 Q1 hc1 hs1 => ?_)
  · have := List.all_eq_true.mp l1 b (by simpa using hb)
    simpa using this
  · obtain ⟨F, tx⟩ := Q1
    have I1 := QI_sg I (sg_Af_F (k := 0) (j := 10) (x := 0) F (by simp)) (by rw [mi_FF, if_pos ⟨rfl, rfl⟩])
    have B1 : BB σ1 := BB_c I.2.1 (fun i => by rw [sg_E F 18]) (fun i => F.2.1 19 i (by decide)) (fun i => by rw [sg_E F 4]) (fun i _ _ => F.2.1 11 i (by decide))
    have tx' : TX σ1 (flc [(0, c)]) := by
      have : flc [(0, c)] = [] ++ tokB c := by
        show List.replicate 0 32 ++ (tokB c ++ []) = _
        simp
      rw [this]
      exact tx
    have Q := q_ask (X := X) (d := d + 66) I1.1.1 B1 ha hc hk tx' hd1 (by have := F.2.2 9 8 (by decide); have := I.2.2.2.1; omega) hl hn (by have := F.2.2 9 11 (by decide); have := I.2.2.2.2; omega) hd
    refine mi_wp_p (pc' := 20) (st' := [.ref 0]) rfl rfl rfl ?_
    refine ls_ti rfl rfl rfl rfl rfl rfl (mi_cal_v2 (np := 0) (args := [.ref 0]) (rest := []) rfl rfl rfl rfl rfl (Nat.le_of_ble_eq_true rfl) rfl rfl (Nat.le_of_ble_eq_true rfl) (ty_rcS S1 (List.mem_of_getElem? (i := 0) rfl))) (Nat.le_of_ble_eq_true rfl) S1 Q ?_
    intro x h2 σ2 S2 f2 P
    obtain ⟨e, P2, P3⟩ := P
    refine mi_wp_p (pc' := 27) (st' := [.int (Int32.ofInt x)]) rfl rfl rfl ?_
    exact ls_ri rfl rfl rfl (mi_ret_i rfl) hc1 hs1 ⟨e, LG_tr0 f1 (LG_M f2), σ2, S2, QI_tr I1 (QI_PQ I1.1 P2), P3⟩
end LW
