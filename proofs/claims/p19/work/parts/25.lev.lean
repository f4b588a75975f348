/-! ===== the ways of the links hidden: row 12 of σ holds the end of each way (printed by wip/gen/lev.py) ===== -/
def mi_wL (σ : mi_Sg) (L : Int → Int) : mi_Sg := (σ.1, fun k i => if k = 12 then L i else σ.2.1 k i, σ.2.2)
def ty_H (h : mi_H) (σ : mi_Sg) : Prop := (mi_sF σ 9 7 = 512 ∧ mi_sF σ 17 11 = 13) ∧ ∃ (L t : Int → Int), mi_St h (mi_wL σ L) ∧ ty_V (mi_wL σ L) (mi_sA σ 12) t
theorem ty_V_eq {σ σ' : mi_Sg} {ρ t : Int → Int} (V : ty_V σ ρ t) (e1 : mi_sF σ' 9 8 = mi_sF σ 9 8 ∧ mi_sF σ' 9 9 = mi_sF σ 9 9) (e2 : mi_sA σ' 12 = mi_sA σ 12) : ty_V σ' ρ t := by
  unfold ty_V at V ⊢
  rw [e1.1, e1.2, e2]
  exact V
theorem mi_wL_A {σ : mi_Sg} {L : Int → Int} {k : Nat} {i : Int} (hk : k ≠ 12) : mi_sA (mi_wL σ L) k i = mi_sA σ k i := if_neg hk
theorem mi_wL_uA {σ : mi_Sg} {L : Int → Int} {k : Nat} {i x : Int} (hk : k ≠ 12) : mi_uA (mi_wL σ L) k i x = mi_wL (mi_uA σ k i x) L := by
  unfold mi_uA mi_wL
  dsimp only
  congr 2
  funext k' i'
  by_cases e : k' = 12
  · rw [if_pos e, if_pos e, if_neg (fun q => hk (q.1.symm.trans e))]
  · rw [if_neg e, if_neg e]
theorem ty_H_of {h : mi_H} {σ σ' : mi_Sg} {L t : Int → Int} (e0 : mi_sF σ 9 7 = 512 ∧ mi_sF σ 17 11 = 13) (V : ty_V (mi_wL σ L) (mi_sA σ 12) t) (S : mi_St h (mi_wL σ' L)) (e1 : mi_sF σ' 9 8 = mi_sF σ 9 8 ∧ mi_sF σ' 9 9 = mi_sF σ 9 9) (e2 : mi_sA σ' 12 = mi_sA σ 12) (e3 : mi_sF σ' 9 7 = mi_sF σ 9 7 ∧ mi_sF σ' 17 11 = mi_sF σ 17 11) : ty_H h σ' :=
  ⟨⟨e3.1.trans e0.1, e3.2.trans e0.2⟩, L, t, S, by rw [e2]; exact ty_V_eq V e1 rfl⟩
theorem ty_H_u {h : mi_H} {σ : mi_Sg} (S : ty_H h σ) : 2 < mi_sF σ 9 8 ∧ mi_sF σ 9 8 ≤ 512 ∧ mi_sF σ 9 7 = 512 ∧ mi_sA σ 12 0 = 0 := by
  obtain ⟨e, L, t, S1, V⟩ := S
  exact ⟨V.1, V.2.1, e.1, V.2.2.1⟩
theorem ty_H_r {h : mi_H} {σ : mi_Sg} (S : ty_H h σ) {n : Int} (h0 : 0 < n) (h1 : n < mi_sF σ 9 8) : 0 < mi_sA σ 12 n ∧ mi_sA σ 12 n < mi_sF σ 9 8 ∧ mi_sA σ 12 (mi_sA σ 12 n) = mi_sA σ 12 n := by
  obtain ⟨e, L, t, S1, V⟩ := S
  obtain ⟨-, -, ⟨g1, g2⟩, -, -, -, -, -, g3⟩ := V.2.2.2.1 n h0 h1
  exact ⟨g1, g2, g3⟩
section TYS
variable {X : mi_X} {d : Nat} {M M' : mi_M} {pc pc' len c s k ci j idx t n : Nat} {i : Instr} {l l' : mi_L} {st args rest r : List Value} {h : mi_H} {Q : mi_Z → Prop} {σ σ' : mi_Sg} {a b x e : Int}
/-- cells that hold σ when the ways of the links are hidden: a method returns, makes nothing, leaves the cells of others, and P holds -/
def ty_C (X : mi_X) (d : Nat) (M : mi_M) (l : mi_L) (σ : mi_Sg) (P : Option Value → mi_Sg → Prop) : Prop := ∀ h, ty_H h σ → mi_wp X d M 0 l [] h 0 0 (fun z => ∃ v h' σ', z = (.inl v, h', 0, 0) ∧ ty_H h' σ' ∧ mi_Fm h h' ∧ P v σ')
def ty_Ci (X : mi_X) (d : Nat) (M : mi_M) (l : mi_L) (σ : mi_Sg) (P : Int → mi_Sg → Prop) : Prop := ty_C X d M l σ (fun v σ' => ∃ x, v = some (.int (Int32.ofInt x)) ∧ P x σ')
def ty_Cj (X : mi_X) (d : Nat) (M : mi_M) (l : mi_L) (σ : mi_Sg) (P : Int64 → mi_Sg → Prop) : Prop := ty_C X d M l σ (fun v σ' => ∃ x, v = some (.long x) ∧ P x σ')
def ty_Cv (X : mi_X) (d : Nat) (M : mi_M) (l : mi_L) (σ : mi_Sg) (P : mi_Sg → Prop) : Prop := ty_C X d M l σ (fun v σ' => v = none ∧ P σ')
theorem ty_s_call (ht : mi_lk (mi_th M) pc = none) (hi : mi_lk (mi_cd M) pc = some (i, 3)) (hp : mi_pure (mi_nL M) 3 i pc l st = none) (hv : mi_ret M i st = none) (hm : (if 3 = mi_ml2 i then mi_mem X M i pc st h 0 0 else none) = none) (he : mi_easy M i st = none) (hcal : mi_cal M i st h = some (M', args, rest)) (hcat : mi_cat args ≤ mi_nL M') (S : ty_H h σ) {P : Option Value → mi_Sg → Prop} (hC : ty_C X d M' (lv_args 0 args) σ P)
    (kk : ∀ v h' σ', ty_H h' σ' → mi_Fm h h' → P v σ' → mi_wp X (d + 1) M (pc + 3) l (v.toList ++ rest) h' 0 0 Q) : mi_wp X (d + 1) M pc l st h 0 0 Q :=
  mi_wp_c ht hi hp hv hm he hcal hcat (hC h S) (fun v h' c' s' ⟨v', h2, σ', e, g1, g2, g3⟩ => by cases e; exact kk _ _ _ g1 g2 g3) (fun x h' c' s' ⟨v', h2, σ', e, _⟩ => by cases e)
theorem ty_s_gf (S : ty_H h σ) (ht : mi_lk (mi_th M) pc = none) (hi : mi_lk (mi_cd M) pc = some (.getfield idx, 3)) (hx : mi_lk (mi_fl (mi_ow M)) idx = some (ci, j)) (hm : (k, ci, j) ∈ mi_tI) (hv : mi_sF σ k j = x) (kk : mi_wp X d M (pc + 3) l (.int (Int32.ofInt x) :: r) h c s Q) : mi_wp X d M pc l (.ref k :: r) h c s Q := by
  obtain ⟨e0, L, t', S1, V⟩ := S
  exact mi_s_gf S1 ht hi hx hm hv kk
theorem ty_s_gr {q : Nat} (S : ty_H h σ) (ht : mi_lk (mi_th M) pc = none) (hi : mi_lk (mi_cd M) pc = some (.getfield idx, 3)) (hx : mi_lk (mi_fl (mi_ow M)) idx = some (ci, j)) (hm : (k, ci, j, q) ∈ mi_tR) (kk : mi_wp X d M (pc + 3) l (.ref q :: r) h c s Q) : mi_wp X d M pc l (.ref k :: r) h c s Q := by
  obtain ⟨e0, L, t', S1, V⟩ := S
  exact mi_s_gr S1 ht hi hx hm kk
theorem ty_s_gv {q : Nat} (S : ty_H h σ) (ht : mi_lk (mi_th M) pc = none) (hi : mi_lk (mi_cd M) pc = some (.getfield idx, 3)) (hx : mi_lk (mi_fl (mi_ow M)) idx = some (ci, j)) (hm : (k, ci, j) ∈ mi_tV) (hv : mi_sF σ k j = (q : Int)) (kk : mi_wp X d M (pc + 3) l (.ref q :: r) h c s Q) : mi_wp X d M pc l (.ref k :: r) h c s Q := by
  obtain ⟨e0, L, t', S1, V⟩ := S
  exact mi_s_gv S1 ht hi hx hm hv kk
theorem ty_s_gj {x : Int64} (S : ty_H h σ) (ht : mi_lk (mi_th M) pc = none) (hi : mi_lk (mi_cd M) pc = some (.getfield idx, 3)) (hx : mi_lk (mi_fl (mi_ow M)) idx = some (ci, j)) (hm : (k, ci, j) ∈ mi_tJ) (hv : mi_sB σ k j = x) (kk : mi_wp X d M (pc + 3) l (.long x :: r) h c s Q) : mi_wp X d M pc l (.ref k :: r) h c s Q := by
  obtain ⟨e0, L, t', S1, V⟩ := S
  exact mi_s_gj S1 ht hi hx hm hv kk
theorem ty_s_pf (S : ty_H h σ) (ht : mi_lk (mi_th M) pc = none) (hi : mi_lk (mi_cd M) pc = some (.putfield idx, 3)) (hx : mi_lk (mi_fl (mi_ow M)) idx = some (ci, j)) (hm : (k, ci, j) ∈ mi_tI) (hk : k < 55 ∧ ¬ ((k = 9 ∧ (j = 7 ∨ j = 8 ∨ j = 9)) ∨ (k = 17 ∧ j = 11))) (hf : mi_fit (mi_ty ci j) (.int (Int32.ofInt x)) = true) (hn : mi_fin ci j = false ∨ (mi_kd M = 2 ∧ mi_ow M = ci)) (kk : ∀ h', ty_H h' (mi_uF σ k j x) → mi_Fm h h' → mi_wp X d M (pc + 3) l r h' c s Q) : mi_wp X d M pc l (.int (Int32.ofInt x) :: .ref k :: r) h c s Q := by
  obtain ⟨e0, L, t', S1, V⟩ := S
  refine mi_s_pf S1 ht hi hx hm hk.1 hf hn (fun h' S' f => kk h' (ty_H_of e0 V (σ' := mi_uF σ k j x) S' ?_ rfl ?_) f)
  · constructor <;> rw [mi_FF, if_neg (fun q => hk.2 (by omega))]
  · constructor <;> rw [mi_FF, if_neg (fun q => hk.2 (by omega))]
theorem ty_s_pv {q : Nat} (S : ty_H h σ) (ht : mi_lk (mi_th M) pc = none) (hi : mi_lk (mi_cd M) pc = some (.putfield idx, 3)) (hx : mi_lk (mi_fl (mi_ow M)) idx = some (ci, j)) (hm : (k, ci, j) ∈ mi_tV) (hk : k < 55 ∧ k ≠ 9 ∧ k ≠ 17) (hf : mi_fit (mi_ty ci j) (.ref q) = true) (hn : mi_fin ci j = false ∨ (mi_kd M = 2 ∧ mi_ow M = ci)) (kk : ∀ h', ty_H h' (mi_uF σ k j (q : Int)) → mi_Fm h h' → mi_wp X d M (pc + 3) l r h' c s Q) : mi_wp X d M pc l (.ref q :: .ref k :: r) h c s Q := by
  obtain ⟨e0, L, t', S1, V⟩ := S
  refine mi_s_pv S1 ht hi hx hm hk.1 hf hn (fun h' S' f => kk h' (ty_H_of e0 V (σ' := mi_uF σ k j (q : Int)) S' ?_ rfl ?_) f)
  · constructor <;> rw [mi_FF, if_neg (fun q => hk.2.1 q.1.symm)]
  · constructor <;> rw [mi_FF, if_neg (fun q => by omega)]
theorem ty_s_pj {x : Int64} (S : ty_H h σ) (ht : mi_lk (mi_th M) pc = none) (hi : mi_lk (mi_cd M) pc = some (.putfield idx, 3)) (hx : mi_lk (mi_fl (mi_ow M)) idx = some (ci, j)) (hm : (k, ci, j) ∈ mi_tJ) (hk : k < 55) (hf : mi_fit (mi_ty ci j) (.long x) = true) (hn : mi_fin ci j = false ∨ (mi_kd M = 2 ∧ mi_ow M = ci)) (kk : ∀ h', ty_H h' (mi_uB σ k j x) → mi_Fm h h' → mi_wp X d M (pc + 3) l r h' c s Q) : mi_wp X d M pc l (.long x :: .ref k :: r) h c s Q := by
  obtain ⟨e0, L, t', S1, V⟩ := S
  exact mi_s_pj S1 ht hi hx hm hk hf hn (fun h' S' f => kk h' (ty_H_of e0 V (σ' := mi_uB σ k j x) S' ⟨rfl, rfl⟩ rfl ⟨rfl, rfl⟩) f)
theorem ty_s_ald (S : ty_H h σ) (ht : mi_lk (mi_th M) pc = none) (hi : mi_lk (mi_cd M) pc = some (.iaload, 1)) (hm : (k, 0, n) ∈ mi_tA) (hn : n ≤ 100000 ∧ k ≠ 12) (h0 : 0 ≤ e) (h1 : e < (n : Int)) (hv : mi_sA σ k e = x) (kk : mi_wp X d M (pc + 1) l (.int (Int32.ofInt x) :: r) h c s Q) : mi_wp X d M pc l (.int (Int32.ofInt e) :: .ref k :: r) h c s Q := by
  obtain ⟨e0, L, t', S1, V⟩ := S
  exact mi_s_ald S1 ht hi hm hn.1 h0 h1 ((mi_wL_A hn.2).trans hv) kk
theorem ty_s_ast (S : ty_H h σ) (ht : mi_lk (mi_th M) pc = none) (hi : mi_lk (mi_cd M) pc = some (.iastore, 1)) (hm : (k, 0, n) ∈ mi_tA) (hk : k < 55) (hn : n ≤ 100000 ∧ k ≠ 12) (h0 : 0 ≤ e) (h1 : e < (n : Int)) (kk : ∀ h', ty_H h' (mi_uA σ k e x) → mi_Fm h h' → mi_wp X d M (pc + 1) l r h' c s Q) : mi_wp X d M pc l (.int (Int32.ofInt x) :: .int (Int32.ofInt e) :: .ref k :: r) h c s Q := by
  obtain ⟨e0, L, t', S1, V⟩ := S
  refine mi_s_ast S1 ht hi hm hk hn.1 h0 h1 (fun h' S' f => kk h' (ty_H_of e0 V (σ' := mi_uA σ k e x) (by rw [← mi_wL_uA hn.2]; exact S') ⟨rfl, rfl⟩ ?_ ⟨rfl, rfl⟩) f)
  funext i
  rw [mi_AA, if_neg (fun q => hn.2 q.1.symm)]
theorem ty_s_lld {x : Int64} (S : ty_H h σ) (ht : mi_lk (mi_th M) pc = none) (hi : mi_lk (mi_cd M) pc = some (.laload, 1)) (hm : (k, n) ∈ mi_tL) (hn : n ≤ 100000) (h0 : 0 ≤ e) (h1 : e < (n : Int)) (hv : mi_sE σ k e = x) (kk : mi_wp X d M (pc + 1) l (.long x :: r) h c s Q) : mi_wp X d M pc l (.int (Int32.ofInt e) :: .ref k :: r) h c s Q := by
  obtain ⟨e0, L, t', S1, V⟩ := S
  exact mi_s_lld S1 ht hi hm hn h0 h1 hv kk
theorem ty_s_lst {x : Int64} (S : ty_H h σ) (ht : mi_lk (mi_th M) pc = none) (hi : mi_lk (mi_cd M) pc = some (.lastore, 1)) (hm : (k, n) ∈ mi_tL) (hk : k < 55) (hn : n ≤ 100000) (h0 : 0 ≤ e) (h1 : e < (n : Int)) (kk : ∀ h', ty_H h' (mi_uE σ k e x) → mi_Fm h h' → mi_wp X d M (pc + 1) l r h' c s Q) : mi_wp X d M pc l (.long x :: .int (Int32.ofInt e) :: .ref k :: r) h c s Q := by
  obtain ⟨e0, L, t', S1, V⟩ := S
  exact mi_s_lst S1 ht hi hm hk hn h0 h1 (fun h' S' f => kk h' (ty_H_of e0 V (σ' := mi_uE σ k e x) S' ⟨rfl, rfl⟩ rfl ⟨rfl, rfl⟩) f)
theorem ty_s_ret {v : Option Value} {h0 : mi_H} {P : Option Value → mi_Sg → Prop} (S : ty_H h σ) (fr : mi_Fm h0 h) (ht : mi_lk (mi_th M) pc = none) (hi : mi_lk (mi_cd M) pc = some (i, 1)) (hp : mi_pure (mi_nL M) 1 i pc l st = none) (hv : mi_ret M i st = some v) (hP : P v σ) : mi_wp X d M pc l st h 0 0 (fun z => ∃ v h' σ', z = (.inl v, h', 0, 0) ∧ ty_H h' σ' ∧ mi_Fm h0 h' ∧ P v σ') := mi_wp_r ht hi hp hv ⟨v, h, σ, rfl, S, fr, hP⟩
/-- the receiver of a call -/
theorem ty_rcS (S : ty_H h σ) (hm : (k, ci, j) ∈ mi_tI) : mi_rc h (.ref k) ci = true := by
  obtain ⟨e0, L, t', S1, V⟩ := S
  exact mi_rcS S1 hm
theorem ty_rcR {q : Nat} (S : ty_H h σ) (hm : (k, ci, j, q) ∈ mi_tR) : mi_rc h (.ref k) ci = true := by
  obtain ⟨e0, L, t', S1, V⟩ := S
  exact mi_rcR S1 hm
theorem ty_s_ci (ht : mi_lk (mi_th M) pc = none) (hi : mi_lk (mi_cd M) pc = some (i, 3)) (hp : mi_pure (mi_nL M) 3 i pc l st = none) (hv : mi_ret M i st = none) (hm : (if 3 = mi_ml2 i then mi_mem X M i pc st h 0 0 else none) = none) (he : mi_easy M i st = none) (hcal : mi_cal M i st h = some (M', args, rest)) (hcat : mi_cat args ≤ mi_nL M') (S : ty_H h σ) {P : Int → mi_Sg → Prop} (hC : ty_Ci X d M' (lv_args 0 args) σ P)
    (kk : ∀ x h' σ', ty_H h' σ' → mi_Fm h h' → P x σ' → mi_wp X (d + 1) M (pc + 3) l (.int (Int32.ofInt x) :: rest) h' 0 0 Q) : mi_wp X (d + 1) M pc l st h 0 0 Q :=
  ty_s_call ht hi hp hv hm he hcal hcat S hC (fun v h' σ' g1 g2 ⟨x, e, g3⟩ => by subst e; exact kk x h' σ' g1 g2 g3)
theorem ty_s_cj (ht : mi_lk (mi_th M) pc = none) (hi : mi_lk (mi_cd M) pc = some (i, 3)) (hp : mi_pure (mi_nL M) 3 i pc l st = none) (hv : mi_ret M i st = none) (hm : (if 3 = mi_ml2 i then mi_mem X M i pc st h 0 0 else none) = none) (he : mi_easy M i st = none) (hcal : mi_cal M i st h = some (M', args, rest)) (hcat : mi_cat args ≤ mi_nL M') (S : ty_H h σ) {P : Int64 → mi_Sg → Prop} (hC : ty_Cj X d M' (lv_args 0 args) σ P)
    (kk : ∀ x h' σ', ty_H h' σ' → mi_Fm h h' → P x σ' → mi_wp X (d + 1) M (pc + 3) l (.long x :: rest) h' 0 0 Q) : mi_wp X (d + 1) M pc l st h 0 0 Q :=
  ty_s_call ht hi hp hv hm he hcal hcat S hC (fun v h' σ' g1 g2 ⟨x, e, g3⟩ => by subst e; exact kk x h' σ' g1 g2 g3)
theorem ty_s_cv (ht : mi_lk (mi_th M) pc = none) (hi : mi_lk (mi_cd M) pc = some (i, 3)) (hp : mi_pure (mi_nL M) 3 i pc l st = none) (hv : mi_ret M i st = none) (hm : (if 3 = mi_ml2 i then mi_mem X M i pc st h 0 0 else none) = none) (he : mi_easy M i st = none) (hcal : mi_cal M i st h = some (M', args, rest)) (hcat : mi_cat args ≤ mi_nL M') (S : ty_H h σ) {P : mi_Sg → Prop} (hC : ty_Cv X d M' (lv_args 0 args) σ P)
    (kk : ∀ h' σ', ty_H h' σ' → mi_Fm h h' → P σ' → mi_wp X (d + 1) M (pc + 3) l rest h' 0 0 Q) : mi_wp X (d + 1) M pc l st h 0 0 Q :=
  ty_s_call ht hi hp hv hm he hcal hcat S hC (fun v h' σ' g1 g2 ⟨e, g3⟩ => by subst e; exact kk h' σ' g1 g2 g3)
end TYS
theorem mi_Ag_wL {σ σ' : mi_Sg} {L : Int → Int} (G : mi_Ag [12] (mi_wL σ L) σ') : σ' = mi_wL σ (mi_sA σ' 12) := by
  obtain ⟨a, b, c⟩ := G
  obtain ⟨f, A, r⟩ := σ'
  dsimp only [mi_wL] at a b
  subst a b
  unfold mi_wL
  congr 2
  funext k i
  by_cases e : k = 12
  · rw [if_pos e, e]
    rfl
  · rw [if_neg e]
    have := c k i (by simp [e])
    rw [mi_wL_A e] at this
    exact this
/-- find tells the end of the way -/
theorem ty_find2 {X : mi_X} {d : Nat} {σ : mi_Sg} {nd : Int} (hz : 0 ≤ nd) (h1 : nd < mi_sF σ 9 8) : ty_Ci X d mi_M127 [(0, .ref 9), (1, .int (Int32.ofInt nd))] σ (fun x σ' => x = mi_sA σ 12 nd ∧ σ' = σ) := by
  intro h S
  obtain ⟨e0, L, t, S1, V⟩ := S
  obtain ⟨n0, z, hz1, v, h', σ', e1, e2, e3, x, e4, e5, V', G⟩ := ty_find (X := X) (d := d) V hz h1 h S1
  refine ⟨n0, z, hz1, v, h', σ, e1, ⟨e0, mi_sA σ' 12, t, ?_, ?_⟩, e3, x, e4, e5, rfl⟩
  · rw [← mi_Ag_wL G]
    exact e2
  · exact ty_V_eq V' ⟨by rw [mi_Ag_F G]; rfl, by rw [mi_Ag_F G]; rfl⟩ rfl
