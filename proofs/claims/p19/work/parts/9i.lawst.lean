/-! ===== the law's own rows, and steps with them ===== -/
/-- cell a is a row of n ints that holds g -/
def LA (h : mi_H) (a n : Nat) (g : Nat → Int) : Prop := mi_ai h a = some (0, n, fun j => Int32.ofInt (g j))
/-- cell a is a row of n Strings that holds g -/
def LR (h : mi_H) (a n : Nat) (g : Nat → Option Nat) : Prop := h[a]? = some (.inl (4, n, .inr (.inr (.inr (.inr g)))))
/-- other cells stay -/
def LF (h h' : mi_H) (w : List Nat) : Prop := h.length ≤ h'.length ∧ ∀ k, k < h.length → k ∉ w → h'[k]? = h[k]?
/-- the same of the law's own cells alone -/
def LG (h h' : mi_H) (w : List Nat) : Prop := h.length ≤ h'.length ∧ ∀ k, 55 ≤ k → k < h.length → k ∉ w → h'[k]? = h[k]?
section LL
variable {h h' h2 : mi_H} {a n : Nat} {g : Nat → Int} {q : Nat → Option Nat} {w w' : List Nat}
theorem LA_lt (A : LA h a n g) : a < h.length := (List.getElem?_eq_some_iff.mp (mi_ai_inv A)).1
theorem LA_k (A : LA h a n g) (e : h'[a]? = h[a]?) : LA h' a n g := mi_ai_of (by rw [e]; exact mi_ai_inv A)
theorem LA_F (A : LA h a n g) (f : LF h h' w) (hn : a ∉ w) : LA h' a n g := LA_k A (f.2 a (LA_lt A) hn)
theorem LA_G (A : LA h a n g) (f : LG h h' w) (ha : 55 ≤ a) (hn : a ∉ w) : LA h' a n g := LA_k A (f.2 a ha (LA_lt A) hn)
theorem LA_M (A : LA h a n g) (f : mi_Fm h h') (ha : 55 ≤ a) : LA h' a n g := LA_k A (f.2 a ha)
theorem LA_eq {g' : Nat → Int} (A : LA h a n g) (e : ∀ j, g j = g' j) : LA h a n g' := by
  have : g = g' := funext e
  subst this
  exact A
theorem LR_lt (A : LR h a n q) : a < h.length := (List.getElem?_eq_some_iff.mp A).1
theorem LR_F (A : LR h a n q) (f : LF h h' w) (hn : a ∉ w) : LR h' a n q := by
  unfold LR
  rw [f.2 a (LR_lt A) hn]
  exact A
theorem LR_M (A : LR h a n q) (f : mi_Fm h h') (ha : 55 ≤ a) : LR h' a n q := by
  unfold LR
  rw [f.2 a ha]
  exact A
theorem LF_rf (h : mi_H) (w : List Nat) : LF h h w := ⟨Nat.le_refl _, fun _ _ _ => rfl⟩
theorem LG_rf (h : mi_H) (w : List Nat) : LG h h w := ⟨Nat.le_refl _, fun _ _ _ _ => rfl⟩
theorem LF_tr (p : LF h h' w) (f : LF h' h2 w') (hw : ∀ k ∈ w', k ∈ w ∨ h.length ≤ k) : LF h h2 w := ⟨Nat.le_trans p.1 f.1, fun k hk hn => by
  rw [f.2 k (Nat.lt_of_lt_of_le hk p.1) (fun m => (hw k m).elim hn (fun z => by omega)), p.2 k hk hn]⟩
theorem LG_tr (p : LG h h' w) (f : LG h' h2 w') (hw : ∀ k ∈ w', k ∈ w ∨ h.length ≤ k) : LG h h2 w := ⟨Nat.le_trans p.1 f.1, fun k h55 hk hn => by
  rw [f.2 k h55 (Nat.lt_of_lt_of_le hk p.1) (fun m => (hw k m).elim hn (fun z => by omega)), p.2 k h55 hk hn]⟩
theorem LG_F (p : LF h h' w) : LG h h' w := ⟨p.1, fun k _ hk hn => p.2 k hk hn⟩
theorem LG_M (p : mi_Fm h h') : LG h h' [] := ⟨Nat.le_of_eq p.1.symm, fun k h55 _ _ => p.2 k h55⟩
theorem LF_aw {i : Nat} {x : Int32} : LF h (mi_aw h a i x) [a] := ⟨Nat.le_of_eq mi_aw_len.symm, fun k hk hn => by
  unfold mi_aw
  split
  next => exact mi_set_ne (fun e => hn (by rw [e]; exact List.mem_singleton.mpr rfl))
  next => rfl⟩
theorem LF_set {e : va_E} : LF h (h.set a e) [a] := ⟨by simp, fun k hk hn => mi_set_ne (fun e => hn (by rw [e]; exact List.mem_singleton.mpr rfl))⟩
theorem LF_app {e : va_E} : LF h (h ++ [e]) [] := ⟨by simp, fun k hk _ => List.getElem?_append_left hk⟩
end LL
theorem mi_fv_e {h h' : mi_H} {k ci j : Nat} (e : h'[k]? = h[k]?) : mi_fv h' k ci j = mi_fv h k ci j := by
  unfold mi_fv
  rw [e]
theorem mi_ai_e {h h' : mi_H} {k : Nat} (e : h'[k]? = h[k]?) : mi_ai h' k = mi_ai h k := by
  unfold mi_ai
  rw [e]
theorem mi_al_e {h h' : mi_H} {k : Nat} (e : h'[k]? = h[k]?) : mi_al h' k = mi_al h k := by
  unfold mi_al
  rw [e]
theorem tb_55 : (∀ q ∈ mi_tI, q.1 < 55) ∧ (∀ q ∈ mi_tV, q.1 < 55) ∧ (∀ q ∈ mi_tJ, q.1 < 55) ∧ (∀ q ∈ mi_tR, q.1 < 55) ∧ (∀ q ∈ mi_tA, q.1 < 55) ∧ (∀ q ∈ mi_tL, q.1 < 55) := by decide +kernel
theorem ty_H_e {h h' : mi_H} {σ : mi_Sg} (S : ty_H h σ) (e : ∀ k, k < 55 → h'[k]? = h[k]?) : ty_H h' σ := by
  obtain ⟨e0, L, t, ⟨s1, s2, s3, s4, s5, s6⟩, V⟩ := S
  obtain ⟨b1, b2, b3, b4, b5, b6⟩ := tb_55
  refine ⟨e0, L, t, ⟨fun q hq => ?_, fun q hq => ?_, fun q hq => ?_, fun q hq => ?_, fun q hq => ?_, fun q hq => ?_⟩, V⟩
  · rw [mi_fv_e (e _ (b1 q hq))]; exact s1 q hq
  · rw [mi_fv_e (e _ (b2 q hq))]; exact s2 q hq
  · rw [mi_fv_e (e _ (b3 q hq))]; exact s3 q hq
  · rw [mi_fv_e (e _ (b4 q hq))]; exact s4 q hq
  · rw [mi_ai_e (e _ (b5 q hq))]; exact s5 q hq
  · rw [mi_al_e (e _ (b6 q hq))]; exact s6 q hq
/-- the class's cells are the first 55 -/
theorem ty_H_55 {h : mi_H} {σ : mi_Sg} (S : ty_H h σ) : 55 ≤ h.length := by
  obtain ⟨e0, L, t, ⟨s1, s2, s3, s4, s5, s6⟩, V⟩ := S
  have := s5 (54, 0, 1024) (List.mem_of_getElem? (i := 36) rfl)
  have := (List.getElem?_eq_some_iff.mp (mi_ai_inv this)).1
  exact this
theorem ty_H_F {h h' : mi_H} {σ : mi_Sg} {w : List Nat} (S : ty_H h σ) (f : LF h h' w) (hw : ∀ k ∈ w, 55 ≤ k) : ty_H h' σ :=
  ty_H_e S (fun k hk => f.2 k (Nat.lt_of_lt_of_le hk (ty_H_55 S)) (fun m => by have := hw k m; omega))
/-- a method of the law: it returns, makes at most C cells and T slots, and P holds -/
def LC (X : mi_X) (d : Nat) (M : mi_M) (l : mi_L) (h : mi_H) (C T : Nat) (P : Option Value → mi_H → Prop) : Prop := mi_wp X d M 0 l [] h 0 0 (fun z => ∃ v h' c' s', z = (.inl v, h', c', s') ∧ c' ≤ C ∧ s' ≤ T ∧ P v h')
def LCi (X : mi_X) (d : Nat) (M : mi_M) (l : mi_L) (h : mi_H) (C T : Nat) (P : Int → mi_H → Prop) : Prop := LC X d M l h C T (fun v h' => ∃ x, v = some (.int (Int32.ofInt x)) ∧ P x h')
def LCv (X : mi_X) (d : Nat) (M : mi_M) (l : mi_L) (h : mi_H) (C T : Nat) (P : mi_H → Prop) : Prop := LC X d M l h C T (fun v h' => v = none ∧ P h')
section LS
variable {X : mi_X} {d : Nat} {M M' : mi_M} {pc pc' len c s a n idx C T : Nat} {i : Instr} {l l' : mi_L} {st args rest r : List Value} {h : mi_H} {Q : mi_Z → Prop} {σ : mi_Sg} {x e : Int} {g : Nat → Int} {q : Nat → Option Nat}
theorem ls_ald (A : LA h a n g) (ht : mi_lk (mi_th M) pc = none) (hi : mi_lk (mi_cd M) pc = some (.iaload, 1)) (hn : n ≤ 100000) (h0 : 0 ≤ e) (h1 : e < (n : Int)) (hv : g e.toNat = x) (kk : mi_wp X d M (pc + 1) l (.int (Int32.ofInt x) :: r) h c s Q) : mi_wp X d M pc l (.int (Int32.ofInt e) :: .ref a :: r) h c s Q := by
  subst hv
  refine mi_wp_ials ht hi A (mi_inb_i h0 h1 hn) ?_
  obtain ⟨g1, g2⟩ := mi_toN h0 h1 hn
  rw [g1]
  exact kk
theorem ls_ast (A : LA h a n g) (ht : mi_lk (mi_th M) pc = none) (hi : mi_lk (mi_cd M) pc = some (.iastore, 1)) (hn : n ≤ 100000) (h0 : 0 ≤ e) (h1 : e < (n : Int)) (kk : ∀ h', LA h' a n (va_up g e.toNat x) → LF h h' [a] → mi_wp X d M (pc + 1) l r h' c s Q) : mi_wp X d M pc l (.int (Int32.ofInt x) :: .int (Int32.ofInt e) :: .ref a :: r) h c s Q := by
  obtain ⟨g1, g2⟩ := mi_toN h0 h1 hn
  refine mi_wp_ias ht hi A (mi_inb_i h0 h1 hn) ?_
  rw [g1]
  refine kk _ ?_ LF_aw
  have h2 := mi_ai_aw (i := e.toNat) (x := Int32.ofInt x) A
  unfold LA
  rw [h2]
  refine congrArg (fun f : Nat → Int32 => some (0, n, f)) (funext fun j => ?_)
  unfold upd va_up
  by_cases hj : j = e.toNat
  · rw [if_pos hj, if_pos hj]
  · rw [if_neg hj, if_neg hj]
theorem ls_len (A : LA h a n g) (ht : mi_lk (mi_th M) pc = none) (hi : mi_lk (mi_cd M) pc = some (.arraylength, 1)) (kk : mi_wp X d M (pc + 1) l (.int (Int32.ofInt (n : Int)) :: r) h c s Q) : mi_wp X d M pc l (.ref a :: r) h c s Q := by
  refine mi_wp_aln ht hi A (by decide) ?_
  rw [show Int32.ofNat n = Int32.ofInt (n : Int) by rfl]
  exact kk
theorem mi_inb_n (h0 : 0 ≤ e) (h1 : e ≤ 200000) : mi_inb (Int32.ofInt e) 200001 = true ∧ (Int32.ofInt e).toNatClampNeg = e.toNat := by
  have hr : mi_R e := ⟨by omega, by omega⟩
  refine ⟨mi_inb_of (by rw [mi_tI_of hr]; exact h0) (by rw [mi_tI_of hr]; omega), mi_nat_of hr⟩
theorem ls_new (ht : mi_lk (mi_th M) pc = none) (hi : mi_lk (mi_cd M) pc = some (.newarray .int, 2)) (h0 : 0 ≤ e) (h1 : e ≤ 200000) (kk : ∀ h' k, k = h.length → LA h' k e.toNat (fun _ => 0) → LF h h' [] → h'.length = k + 1 → mi_wp X d M (pc + 2) l (.ref k :: r) h' (c + 1) (s + e.toNat) Q) : mi_wp X d M pc l (.int (Int32.ofInt e) :: r) h c s Q := by
  obtain ⟨g1, g2⟩ := mi_inb_n h0 h1
  refine mi_wp_m ht hi rfl (by unfold mi_ret; rfl) rfl ?_ (kk (h ++ [.inl (0, e.toNat, .inl (fun _ => 0))]) h.length rfl (mi_ai_of (by rw [List.getElem?_append_right (Nat.le_refl _)]; simp)) LF_app (by simp))
  show mi_nar 0 (fun n => (n, .inl (fun _ => 0))) (pc + 2) (.int (Int32.ofInt e) :: r) h c s = _
  unfold mi_nar
  rw [← g2]
  exact if_pos g1
theorem ls_qnew (ht : mi_lk (mi_th M) pc = none) (hi : mi_lk (mi_cd M) pc = some (.anewarray idx, 3)) (hx : (mi_lk (mi_al_ (mi_ow M)) idx).isSome = true) (h0 : 0 ≤ e) (h1 : e ≤ 200000) (kk : ∀ h' k, k = h.length → LR h' k e.toNat (fun _ => none) → LF h h' [] → h'.length = k + 1 → mi_wp X d M (pc + 3) l (.ref k :: r) h' (c + 1) (s + e.toNat) Q) : mi_wp X d M pc l (.int (Int32.ofInt e) :: r) h c s Q := by
  obtain ⟨g1, g2⟩ := mi_inb_n h0 h1
  refine mi_wp_m ht hi rfl (by unfold mi_ret; rfl) rfl ?_ (kk (h ++ [.inl (4, e.toNat, .inr (.inr (.inr (.inr (fun _ => none)))))]) h.length rfl (by unfold LR; rw [List.getElem?_append_right (Nat.le_refl _)]; simp) LF_app (by simp))
  show mi_qnw (mi_ow M) idx (pc + 3) (.int (Int32.ofInt e) :: r) h c s = _
  unfold mi_qnw
  rw [← g2]
  exact if_pos ⟨hx, g1⟩
theorem ls_qst {k : Nat} (A : LR h a n q) (ht : mi_lk (mi_th M) pc = none) (hi : mi_lk (mi_cd M) pc = some (.aastore, 1)) (hn : n ≤ 100000) (h0 : 0 ≤ e) (h1 : e < (n : Int)) (hk : k % 4 = 0 ∧ k / 4 < mi_nS) (kk : ∀ h', LR h' a n (va_up q e.toNat (some k)) → LF h h' [a] → mi_wp X d M (pc + 1) l r h' c s Q) : mi_wp X d M pc l (.retAddr k :: .int (Int32.ofInt e) :: .ref a :: r) h c s Q := by
  obtain ⟨g1, g2⟩ := mi_toN h0 h1 hn
  refine mi_wp_m ht hi rfl (by unfold mi_ret; rfl) rfl ?_ (kk (h.set a (.inl (4, n, .inr (.inr (.inr (.inr (va_up q e.toNat (some k)))))))) (mi_set_eq A) LF_set)
  show mi_qst (pc + 1) (.retAddr k :: .int (Int32.ofInt e) :: .ref a :: r) h c s = _
  have A' : h[a]? = some (.inl (4, n, .inr (.inr (.inr (.inr q))))) := A
  unfold mi_qst
  simp only [A', g1]
  exact if_pos ⟨trivial, mi_inb_i h0 h1 hn, hk⟩
theorem ls_qld {k : Nat} (A : LR h a n q) (ht : mi_lk (mi_th M) pc = none) (hi : mi_lk (mi_cd M) pc = some (.aaload, 1)) (hn : n ≤ 100000) (h0 : 0 ≤ e) (h1 : e < (n : Int)) (hv : q e.toNat = some k) (kk : mi_wp X d M (pc + 1) l (.retAddr k :: r) h c s Q) : mi_wp X d M pc l (.int (Int32.ofInt e) :: .ref a :: r) h c s Q := by
  obtain ⟨g1, g2⟩ := mi_toN h0 h1 hn
  refine mi_wp_m ht hi rfl (by unfold mi_ret; rfl) rfl ?_ kk
  show mi_qld (pc + 1) (.int (Int32.ofInt e) :: .ref a :: r) h c s = _
  have A' : h[a]? = some (.inl (4, n, .inr (.inr (.inr (.inr q))))) := A
  unfold mi_qld
  simp only [A', g1, hv]
  exact if_pos ⟨trivial, mi_inb_i h0 h1 hn⟩
theorem ls_call (ht : mi_lk (mi_th M) pc = none) (hi : mi_lk (mi_cd M) pc = some (i, 3)) (hp : mi_pure (mi_nL M) 3 i pc l st = none) (hv : mi_ret M i st = none) (hm : (if 3 = mi_ml2 i then mi_mem X M i pc st h c s else none) = none) (he : mi_easy M i st = none) (hcal : mi_cal M i st h = some (M', args, rest)) (hcat : mi_cat args ≤ mi_nL M') {P : Option Value → mi_H → Prop} (hC : LC X d M' (lv_args 0 args) h C T P)
    (kk : ∀ v h' c' s', c' ≤ C → s' ≤ T → P v h' → mi_wp X (d + 1) M (pc + 3) l (v.toList ++ rest) h' (c + c') (s + s') Q) : mi_wp X (d + 1) M pc l st h c s Q :=
  mi_wp_c ht hi hp hv hm he hcal hcat hC (fun v h' c' s' ⟨v', h2, c2, s2, e, g1, g2, g3⟩ => by cases e; exact kk _ _ _ _ g1 g2 g3) (fun x h' c' s' ⟨v', h2, c2, s2, e, _⟩ => by cases e)
theorem ls_ci (ht : mi_lk (mi_th M) pc = none) (hi : mi_lk (mi_cd M) pc = some (i, 3)) (hp : mi_pure (mi_nL M) 3 i pc l st = none) (hv : mi_ret M i st = none) (hm : (if 3 = mi_ml2 i then mi_mem X M i pc st h c s else none) = none) (he : mi_easy M i st = none) (hcal : mi_cal M i st h = some (M', args, rest)) (hcat : mi_cat args ≤ mi_nL M') {P : Int → mi_H → Prop} (hC : LCi X d M' (lv_args 0 args) h C T P)
    (kk : ∀ x h' c' s', c' ≤ C → s' ≤ T → P x h' → mi_wp X (d + 1) M (pc + 3) l (.int (Int32.ofInt x) :: rest) h' (c + c') (s + s') Q) : mi_wp X (d + 1) M pc l st h c s Q :=
  ls_call ht hi hp hv hm he hcal hcat hC (fun v h' c' s' g1 g2 ⟨x, e, g3⟩ => by subst e; exact kk x h' c' s' g1 g2 g3)
theorem ls_cv (ht : mi_lk (mi_th M) pc = none) (hi : mi_lk (mi_cd M) pc = some (i, 3)) (hp : mi_pure (mi_nL M) 3 i pc l st = none) (hv : mi_ret M i st = none) (hm : (if 3 = mi_ml2 i then mi_mem X M i pc st h c s else none) = none) (he : mi_easy M i st = none) (hcal : mi_cal M i st h = some (M', args, rest)) (hcat : mi_cat args ≤ mi_nL M') {P : mi_H → Prop} (hC : LCv X d M' (lv_args 0 args) h C T P)
    (kk : ∀ h' c' s', c' ≤ C → s' ≤ T → P h' → mi_wp X (d + 1) M (pc + 3) l rest h' (c + c') (s + s') Q) : mi_wp X (d + 1) M pc l st h c s Q :=
  ls_call ht hi hp hv hm he hcal hcat hC (fun v h' c' s' g1 g2 ⟨e, g3⟩ => by subst e; exact kk h' c' s' g1 g2 g3)
/-- a call of the class's method -/
theorem ls_ti (ht : mi_lk (mi_th M) pc = none) (hi : mi_lk (mi_cd M) pc = some (i, 3)) (hp : mi_pure (mi_nL M) 3 i pc l st = none) (hv : mi_ret M i st = none) (hm : (if 3 = mi_ml2 i then mi_mem X M i pc st h c s else none) = none) (he : mi_easy M i st = none) (hcal : mi_cal M i st h = some (M', args, rest)) (hcat : mi_cat args ≤ mi_nL M') (S : ty_H h σ) {P : Int → mi_Sg → Prop} (hC : ty_Ci X d M' (lv_args 0 args) σ P)
    (kk : ∀ x h' σ', ty_H h' σ' → mi_Fm h h' → P x σ' → mi_wp X (d + 1) M (pc + 3) l (.int (Int32.ofInt x) :: rest) h' c s Q) : mi_wp X (d + 1) M pc l st h c s Q :=
  mi_wp_c ht hi hp hv hm he hcal hcat (hC h S) (fun v h' c' s' ⟨v', h2, σ', e, g1, g2, x, e2, g3⟩ => by cases e; subst e2; exact kk _ _ _ g1 g2 g3) (fun x h' c' s' ⟨v', h2, σ', e, _⟩ => by cases e)
theorem ls_ri (ht : mi_lk (mi_th M) pc = none) (hi : mi_lk (mi_cd M) pc = some (i, 1)) (hp : mi_pure (mi_nL M) 1 i pc l st = none) (hv : mi_ret M i st = some (some (.int (Int32.ofInt x)))) {P : Int → mi_H → Prop} (hc : c ≤ C) (hs : s ≤ T) (hP : P x h) : mi_wp X d M pc l st h c s (fun z => ∃ v h' c' s', z = (.inl v, h', c', s') ∧ c' ≤ C ∧ s' ≤ T ∧ ∃ x, v = some (.int (Int32.ofInt x)) ∧ P x h') := mi_wp_r ht hi hp hv ⟨_, _, _, _, rfl, hc, hs, _, rfl, hP⟩
theorem ls_rv (ht : mi_lk (mi_th M) pc = none) (hi : mi_lk (mi_cd M) pc = some (i, 1)) (hp : mi_pure (mi_nL M) 1 i pc l st = none) (hv : mi_ret M i st = some none) {P : mi_H → Prop} (hc : c ≤ C) (hs : s ≤ T) (hP : P h) : mi_wp X d M pc l st h c s (fun z => ∃ v h' c' s', z = (.inl v, h', c', s') ∧ c' ≤ C ∧ s' ≤ T ∧ v = none ∧ P h') := mi_wp_r ht hi hp hv ⟨_, _, _, _, rfl, hc, hs, rfl, hP⟩
end LS
section L1
variable {h h' h2 : mi_H} {a b n : Nat} {g : Nat → Int} {q : Nat → Option Nat} {w : List Nat} {σ : mi_Sg}
theorem LA_F0 (A : LA h a n g) (f : LF h h' []) : LA h' a n g := LA_F A f (by simp)
theorem LA_F1 (A : LA h a n g) (f : LF h h' [b]) (hn : a ≠ b) : LA h' a n g := LA_F A f (by simpa using hn)
theorem LR_F0 (A : LR h a n q) (f : LF h h' []) : LR h' a n q := LR_F A f (by simp)
theorem LR_F1 (A : LR h a n q) (f : LF h h' [b]) (hn : a ≠ b) : LR h' a n q := LR_F A f (by simpa using hn)
theorem LF_tr0 (p : LF h h' w) (f : LF h' h2 []) : LF h h2 w := LF_tr p f (fun k m => by cases m)
theorem LF_tr1 (p : LF h h' w) (f : LF h' h2 [b]) (hb : b ∈ w ∨ h.length ≤ b) : LF h h2 w := LF_tr p f (fun k m => by
  cases List.mem_singleton.mp m
  exact hb)
theorem LG_tr0 (p : LG h h' w) (f : LG h' h2 []) : LG h h2 w := LG_tr p f (fun k m => by cases m)
theorem LG_tr1 (p : LG h h' w) (f : LG h' h2 [b]) (hb : b ∈ w ∨ h.length ≤ b) : LG h h2 w := LG_tr p f (fun k m => by
  cases List.mem_singleton.mp m
  exact hb)
theorem ty_H_F0 (S : ty_H h σ) (f : LF h h' []) : ty_H h' σ := ty_H_F S f (fun k m => by cases m)
theorem ty_H_F1 (S : ty_H h σ) (f : LF h h' [b]) (hb : 55 ≤ b) : ty_H h' σ := ty_H_F S f (fun k m => by
  cases List.mem_singleton.mp m
  exact hb)
end L1
