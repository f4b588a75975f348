/-! ===== a method's contract out of its run, second half ===== -/
theorem mi_ald_le {t q pc' c s c' s' : Nat} {st st' : List Value} {h h' : mi_H} (hh : mi_ald t q st h c s = some (pc', st', h', c', s')) : c ≤ c' ∧ s ≤ s' := by
  unfold mi_ald at hh
  repeat' split at hh
  all_goals (first | (cases hh; done) | (cases hh; exact ⟨Nat.le_refl _, Nat.le_refl _⟩))
theorem mi_ast_le {t q pc' c s c' s' : Nat} {f : Int32 → Int32} {st st' : List Value} {h h' : mi_H} (hh : mi_ast t f q st h c s = some (pc', st', h', c', s')) : c ≤ c' ∧ s ≤ s' := by
  unfold mi_ast at hh
  repeat' split at hh
  all_goals (first | (cases hh; done) | (cases hh; exact ⟨Nat.le_refl _, Nat.le_refl _⟩))
theorem mi_mem_le {X : mi_X} {M : mi_M} {i : Instr} {pc pc' c s c' s' : Nat} {st st' : List Value} {h h' : mi_H} (hh : mi_mem X M i pc st h c s = some (pc', st', h', c', s')) : c ≤ c' ∧ s ≤ s' := by
  unfold mi_mem at hh
  split at hh
  all_goals (try simp only [mi_getf, mi_gf, mi_gs, mi_putf, mi_pf, mi_sld, mi_bld, mi_lald, mi_last, mi_alen, mi_qld, mi_qst, mi_qnw, mi_nar, mi_new, mi_ldc, mi_ldc2, mi_gets] at hh)
  all_goals (first | exact mi_ast_le hh | exact mi_ald_le hh | skip)
  all_goals (repeat' split at hh)
  all_goals (first | (cases hh; done) | (cases hh; exact ⟨Nat.le_refl _, Nat.le_refl _⟩) | (cases hh; exact ⟨Nat.le_add_right _ _, Nat.le_add_right _ _⟩) | exact mi_ast_le hh | exact mi_ald_le hh | (cases hh; first | exact mi_ald_le (by assumption) | exact mi_ast_le (by assumption)))
/-- what is owed at the end of a run: r is its result -/
def mi_End (p : Program) (l : Launch) (e : Env) (R : Room) (s : State) (m : MethodId) (args : Array Value) (below : List Frame) (meth : Method) (c : Code) (Q : State → Prop) (M : mi_M) (cn : Nat → Nat) (ids : Nat → ClassId) (D : va_G) (A : Nat → Prop) (ad : List Nat) (r : mi_Z) : Prop := match r.1 with
  | .inl v => ∀ (H' : Heap) (locs' : List Loc) (ad' : List Nat) (pc' : Nat) (ls' : Array Slot) (sw' : List Value) (i : Instr) (st' : List Value), mi_le ad ad' → decode (mi_bt M) pc' = .ok (i, 1) → mi_ret M i st' = some v → mi_rl ad' cn st' sw' → mi_Wd D ids cn A s ad' r.2.1 H' locs' → W p l e R s m args below meth c H' locs' r.2.2.1 r.2.2.2 Q (F0 m pc' ls' sw')
  | .inr x => ∃ (Qc : Array Value → State → Outcome → State → Prop) (XC : String → State → State → Prop) (free : Addr → Prop), Q = vx_MQ below Qc XC args s r.2.2.1 r.2.2.2 free ∧ (∀ q, A q → free q) ∧ ∀ (t : State) (ad' : List Nat), mi_le ad ad' → mi_Wc D ids cn ad' r.2.1 t.heap → (∀ a ∈ ad', A a) → va_F A s t → XC (mi_xn x) s t
theorem mi_End_mono {p : Program} {l : Launch} {e : Env} {R : Room} {s : State} {m : MethodId} {args : Array Value} {below : List Frame} {meth : Method} {c : Code} {Q : State → Prop} {M : mi_M} {cn : Nat → Nat} {ids : Nat → ClassId} {D : va_G} {A : Nat → Prop} {ad ad' : List Nat} {r : mi_Z} (hle : mi_le ad ad') (h : mi_End p l e R s m args below meth c Q M cn ids D A ad r) : mi_End p l e R s m args below meth c Q M cn ids D A ad' r := by
  obtain ⟨r1, r2⟩ := r
  cases r1 with
  | inl v => exact fun H' locs' ad1 pc' ls' sw' i st' hle1 => h H' locs' ad1 pc' ls' sw' i st' (mi_le_tr hle hle1)
  | inr x =>
    obtain ⟨Qc, XC, free, h1, h2, h3⟩ := h
    exact ⟨Qc, XC, free, h1, h2, fun t ad1 hle1 => h3 t ad1 (mi_le_tr hle hle1)⟩
/-- a run is the machine's: for runs of n instructions -/
def mi_S (X : mi_X) (n : Nat) : Prop := ∀ (d : Nat) (M : mi_M) (pc : Nat) (la : mi_L) (st : List Value) (h : mi_H) (cells slots : Nat) (r : mi_Z), mi_mok M = true → mi_run X n d M pc la st h cells slots = some r → (cells ≤ r.2.2.1 ∧ slots ≤ r.2.2.2) ∧
  ∀ (p : Program) (l : Launch) (e : Env) (R : Room) (s : State) (m : MethodId) (args : Array Value) (below : List Frame) (meth : Method) (c : Code) (H : Heap) (locs : List Loc) (Q : State → Prop) (cn : Nat → Nat) (ids : Nat → ClassId) (D : va_G) (A : Nat → Prop) (sz0 : Nat) (ad : List Nat) (lv : mi_L) (sw : List Value) (ls : Array Slot),
    mi_Fr p l R s m args meth c M d X cn ids D A sz0 → r.2.2.1 ≤ R.cells → r.2.2.2 ≤ R.slots → lv_has ls (mi_nL M) lv → mi_rn ad cn la lv → mi_Wd D ids cn A s ad h H locs → mi_rl ad cn st sw → mi_End p l e R s m args below meth c Q M cn ids D A ad r →
    W p l e R s m args below meth c H locs cells slots Q (F0 m pc ls sw)
section MIM
variable {l : Launch} {d sz0 sz : Nat} {h h' : mi_H} {ad : List Nat} {cn : Nat → Nat} {ids : Nat → ClassId} {D : va_G} {X : mi_X} {M : mi_M} {av aw : List Value}
theorem mi_FrOf {p : Program} {e : Env} {s s₁ : State} {m : MethodId} {args : Array Value} {below : List Frame} {meth : Method} {c : Code} {rm : Room} (hM : M ∈ mi_mt) (hst : l.stackTraces = false) (hrf : d ≤ rm.frames) (hrl : 40 * d ≤ rm.locals)
    (B : BodyLoose p l (mi_y M) (headSpec (mi_Ws M) rm) (mi_bt M) (mi_nL M) (mi_rt M) e s m args below meth c s₁) (hml : c.maxLocals = mi_nL M) (htab : c.exceptionTable.toList = tableOf (mi_hd M)) (hv : mi_Pc X cn ids D sz0 ad h sz aw args s) : mi_Fr p l (headSpec (mi_Ws M) rm).room s m args meth c M d X cn ids D (mi_Af ad sz) sz0 := by
  obtain ⟨k1, k2, k3, k4, k5, k6, k7, k8, -⟩ := mi_mok_spec (mi_ok hM)
  obtain ⟨-, hsz, hz0, had, hGl, -⟩ := hv
  have hown := findClass_of_methodNamed B.named
  rw [k5] at hown
  refine ⟨⟨B.exec, B.bytes, B.returns, hml, B.notSynchronized, fun q => (name_of_methodNamed B.named B.method).1.trans (k8 q), fun _ => htab, hown⟩, fun w hw => atoms_spec (ws := mi_Ws M) B.pre w (List.mem_cons_of_mem _ hw), fun q hq => Or.inr (by omega), fun q hq => ?_, by omega, hGl, hrf, hrl, hst⟩
  rcases hq with hq | hq
  · exact had q hq
  · omega
set_option maxRecDepth 100000 in
theorem mi_k3 : ∀ M ∈ mi_mt, (¬ mi_kd M = 3) ∨ plainName (mi_y M).cls = true := by decide +kernel
theorem mi_W0 {n : Nat} (ih : mi_S X n) {p : Program} {e : Env} {s : State} {m : MethodId} {args : Array Value} {below : List Frame} {meth : Method} {c : Code} {R : Room} {Q : State → Prop} (hM : M ∈ mi_mt) (F : mi_Fr p l R s m args meth c M d X cn ids D (mi_Af ad sz) sz0) (hv : mi_Pc X cn ids D sz0 ad h sz aw args s)
    {r : mi_Z} (hrun : mi_run X n d M 0 (lv_args 0 av) [] h 0 0 = some r) (hargs : mi_rl ad cn av aw) (hcat : mi_cat av ≤ mi_nL M) (hc : r.2.2.1 ≤ R.cells) (hs : r.2.2.2 ≤ R.slots) (hend : mi_End p l e R s m args below meth c Q M cn ids D (mi_Af ad sz) ad r) : W p l e R s m args below meth c s.heap [] 0 0 Q (entryFrame m args (mi_nL M)) := by
  obtain ⟨hav, -, -, -, -, hWc⟩ := hv
  subst hav
  rw [lg_entry_eq]
  have hl := lv_entry aw (n := mi_nL M) (by rw [mi_sl_len, mi_rl_cat hargs]; exact hcat)
  exact (ih d M 0 _ [] h 0 0 r (mi_ok hM) hrun).2 p l e R s m _ below meth c s.heap [] Q cn ids D _ sz0 ad _ [] _ F hc hs hl (mi_args_r 0 hargs) (mi_Wd_of hWc (fun a ha => Or.inl ha) va_S.rf) rfl hend
theorem mi_met {n : Nat} (ih : mi_S X n) (hM : M ∈ mi_mt) (hst : l.stackTraces = false) {v : Option Value} {mc ms : Nat} (hrun : mi_run X n d M 0 (lv_args 0 av) [] h 0 0 = some (.inl v, h', mc, ms)) (hargs : mi_rl ad cn av aw) (hcat : mi_cat av ≤ mi_nL M) :
    Met l (mi_y M) (mi_Ws M) { frames := d, cells := mc, slots := ms, locals := 40 * d } (mi_Pc X cn ids D sz0 ad h sz aw) (mi_Qn cn ids D ad sz v h') mc ms (mi_Af ad sz) := by
  have hpl := (mi_mok_spec (mi_ok hM)).1
  have hkd := (mi_mok_spec (mi_ok hM)).2.2.2.2.2.2.2.2.2.2
  have body : ∀ (p : Program) (e : Env) (s : State) (m : MethodId) (args : Array Value) (below : List Frame) (meth : Method) (c : Code) (s₁ : State), BodyLoose p l (mi_y M) (headSpec (mi_Ws M) { frames := d, cells := mc, slots := ms, locals := 40 * d }) (mi_bt M) (mi_nL M) (mi_rt M) e s m args below meth c s₁ → c.maxLocals = mi_nL M → c.exceptionTable.toList = tableOf (mi_hd M) → mi_Pc X cn ids D sz0 ad h sz aw args s →
      W p l e (headSpec (mi_Ws M) { frames := d, cells := mc, slots := ms, locals := 40 * d }).room s m args below meth c s.heap [] 0 0 (MQ below (mi_Qn cn ids D ad sz v h') args s mc ms (mi_Af ad sz)) (entryFrame m args (mi_nL M)) := by
    intro p e s m args below meth c s₁ B hml htab hv
    have F := mi_FrOf (d := d) hM hst (Nat.le_refl _) (Nat.le_refl _) B hml htab hv
    refine mi_W0 ih hM F hv hrun hargs hcat (Nat.le_refl _) (Nat.le_refl _) ?_
    intro H' locs' ad' pc' ls' sw' i st' hle hd hr hs hw
    obtain ⟨hWc, hin, hS⟩ := mi_Wc_of hw
    exact mi_retQ_ok F hd hr hs (fun w t hw1 ht hW => ⟨⟨ad', w, hle, rfl, hw1, by rw [ht]; exact hWc, hin⟩, hS.F ht⟩) hS.2.2
  by_cases hk : mi_kd M = 3
  · refine va_MetW (hh := mi_hd M) (cc := mi_bt M) (maxL := mi_nL M) (ret := mi_rt M) (ws' := mi_need) ((mi_k3 M hM).resolve_left (fun q => q hk)) (by unfold mi_Ws mi_hw; rw [if_pos hk]) ?_
    intro p e s m args below meth c s₁ B hml hv
    have hcw : (Cond.codeWith (mi_y M) (mi_bt M) (mi_nL M) (mi_rt M) (mi_hd M)).before args s = true := by
      have h1 := atoms_spec (ws := mi_Ws M) B.pre (mi_hw M) List.mem_cons_self
      unfold mi_hw at h1
      rw [if_pos hk] at h1
      exact h1
    exact body p e s m args below meth c s₁ B hml (vx_table (x := mi_y M) B hcw) hv
  · refine va_MetF (cc := mi_bt M) (maxL := mi_nL M) (ret := mi_rt M) (ws' := mi_need) hpl (by unfold mi_Ws mi_hw; rw [if_neg hk]) ?_
    intro p e s m args below meth c s₁ B hml hv
    have hcw : (Cond.code (mi_y M) (mi_bt M) (mi_nL M) (mi_rt M)).before args s = true := by
      have h1 := atoms_spec (ws := mi_Ws M) B.pre (mi_hw M) List.mem_cons_self
      unfold mi_hw at h1
      rw [if_neg hk] at h1
      exact h1
    have ht : c.exceptionTable.toList = tableOf (mi_hd M) := by
      obtain ⟨meth9, c9, h1, h2, -, -, -, -, h7, -⟩ := Cond.code_spec B.named hcw
      cases Option.some.inj (h1.symm.trans B.method)
      cases Option.some.inj (h2.symm.trans (Stand.of_body B).code)
      rw [Array.isEmpty_iff.mp h7, hkd.resolve_left hk]
      rfl
    exact body p e s m args below meth c s₁ B hml ht hv
end MIM
