/-! ===== exceptions; and that a run is the machine's ===== -/
theorem mi_xs_ot : ∀ q ∈ mi_xs, (vx_atS "TypeLoom" q.2 (mi_xn q.1) mi_xc).all vx_ot = true := by decide +kernel
theorem mi_xfit : ∀ x, x < 3 → Bundle.fit (mi_xn x) = true := by decide +kernel
theorem mi_xcfit : ∀ n ∈ mi_xc, Bundle.fit n = true := by decide +kernel
theorem mi_xs_all : ∀ x, x < 3 → ∃ q ∈ mi_xs, q.1 = x := by decide +kernel
theorem mi_xl_ok : ∀ o, o < mi_no → ∀ x ∈ mi_xl o, x.1 ≠ 0 ∧ x.2 < 3 := by decide +kernel
theorem mi_xl_in {o idx x : Nat} (ho : o < mi_no) (hf : mi_lk (mi_xl o) idx = some x) : Cond.classLink (mi_on o) idx (mi_xn x) ∈ mi_need :=
  mi_in2 ho (List.mem_append_right _ (List.mem_append_right _ (List.mem_append_right _ (List.mem_append_left _ (List.mem_map.mpr ⟨_, mi_lk_mem hf, rfl⟩)))))
theorem mi_xini {x : Nat} (h : x < 3) : Cond.initialized (mi_xn x) ∈ mi_need := by
  match x, h with
  | 0, _ => exact mi_in3 (List.mem_of_getElem? (i := 6) rfl)
  | 1, _ => exact mi_in3 (List.mem_of_getElem? (i := 7) rfl)
  | 2, _ => exact mi_in3 (List.mem_of_getElem? (i := 8) rfl)
theorem mi_fnd_ok {pc : Nat} {q : Nat × Nat × Nat × Nat} : ∀ {l : List (Nat × Nat × Nat × Nat)}, mi_fnd l pc = some q → ∃ (as bs : List (Nat × Nat × Nat × Nat)), l = as ++ q :: bs ∧ (decide (q.1 ≤ pc) && decide (pc < q.2.1)) = true ∧ ∀ a ∈ as, (decide (a.1 ≤ pc) && decide (pc < a.2.1)) = false
  | [], h => by cases h
  | z :: l, h => by
    unfold mi_fnd at h
    cases hz : (decide (z.1 ≤ pc) && decide (pc < z.2.1)) with
    | true =>
      rw [if_pos hz] at h
      cases h
      exact ⟨[], l, rfl, hz, fun _ ha => nomatch ha⟩
    | false =>
      rw [if_neg (by rw [hz]; exact Bool.false_ne_true)] at h
      obtain ⟨as, bs, h1, h2, h3⟩ := mi_fnd_ok h
      refine ⟨z :: as, bs, by rw [h1]; rfl, h2, fun a ha => ?_⟩
      rcases List.mem_cons.mp ha with rfl | ha
      · exact hz
      · exact h3 a ha
section MIT
variable {p : Program} {l : Launch} {e : Env} {R : Room} {s : State} {m : MethodId} {args : Array Value} {below : List Frame} {meth : Method} {c : Code} {H : Heap} {locs : List Loc} {cells slots : Nat} {Q : State → Prop}
variable {pc d sz0 : Nat} {st : List Value} {h h' : mi_H} {ad : List Nat} {cn : Nat → Nat} {ids : Nat → ClassId} {D : va_G} {A : Nat → Prop} {sw : List Value} {ls : Array Slot} {X : mi_X} {M M' : mi_M}
theorem mi_hat (F : mi_Fr p l R s m args meth c M d X cn ids D A sz0) {q : Nat × Nat} (hq : q ∈ mi_xs) : ∀ w ∈ vx_atS "TypeLoom" q.2 (mi_xn q.1) mi_xc, w.before args s = true := by
  intro w hw
  have hbad := F.2.2.2.2.2.1.2.2.2.1
  cases hg : goodWord w with
  | true => exact F.2.1 w (mi_in4 (List.mem_flatMap.mpr ⟨q, hq, List.mem_filter.mpr ⟨hw, hg⟩⟩))
  | false =>
    have hb : w ∈ mi_bad := List.mem_append_right _ (List.mem_flatMap.mpr ⟨q, hq, List.mem_filter.mpr ⟨hw, by rw [hg]; rfl⟩⟩)
    exact va_Nw.use (mi_bw_on (mi_bad_bw w hb)) (hbad w hb)
theorem mi_throw_ok (hM : mi_mok M = true) (F : mi_Fr p l R s m args meth c M d X cn ids D A sz0) {t : Nat × Nat × Nat × Nat × Bool} (ht : mi_lk (mi_th M) pc = some t) (hd8 : 8 ≤ d) (hct : mi_cat st ≤ 8) (hls : ls.size = mi_nL M) (hRc : cells + 1 ≤ R.cells) (hRs : slots + 6 ≤ R.slots) (hw : mi_Wd D ids cn A s ad h H locs) (hs : mi_rl ad cn st sw)
    {Qc : Array Value → State → Outcome → State → Prop} {XC : String → State → State → Prop} {free : Addr → Prop} (hfree : ∀ q, A q → free q) (hXC : ∀ (t9 : State) (ad' : List Nat), mi_le ad ad' → mi_Wc D ids cn ad' h t9.heap → (∀ a ∈ ad', A a) → va_F A s t9 → XC (mi_xn t.1) s t9) :
    W p l e R s m args below meth c H locs cells slots (vx_MQ below Qc XC args s (cells + 1) (slots + 6) free) (F0 m pc ls sw) := by
  obtain ⟨k1, k2, k3, k4, k5, k6, k7, k8, k9, k10, k11⟩ := mi_mok_spec hM
  obtain ⟨t0, t3, t4, t6, t9, tc, tx, tk, tl, tlt, i, ti, -⟩ := k10 (pc, t) (mi_lk_mem ht)
  have hown := F.1.2.2.2.2.2.2.2
  have hcls : mi_on (mi_ow M) = "TypeLoom" := k5.symm.trans tc
  rw [hcls] at hown
  have hlink := F.2.1 _ (mi_xl_in k6 tl)
  rw [hcls] at hlink
  obtain ⟨tx9, hstr⟩ := mi_str k6 F.2.2.2.2.2.1.2.2.1 ti
  rw [hcls] at hstr
  have hot := mi_xs_ot _ tx
  have hA0 := F.2.2.2.1
  obtain ⟨-, -, -, -, hU, hN, -⟩ := F.2.2.2.2.2.1
  obtain ⟨ws, hrw, hP, hD, hS⟩ := hw
  have hRf := F.2.2.2.2.2.2.1
  have hRl := F.2.2.2.2.2.2.2.1
  have hcat := mi_rl_cat hs
  have hin : ∀ a ∈ ad, A a := (mi_Wc_of (show mi_Wd D ids cn A s ad h H locs from ⟨ws, hrw, hP, hD, hS⟩)).2.1
  refine vx_throwS (own := "TypeLoom") (cls := mi_xn t.1) (text := tx9) (names := mi_xc) (ik := t.2.1) (is := t.2.2.1) (ic := t.2.2.2.1) (sa := cn (4 * i)) (A := A) F.1.1 F.1.2.1 F.2.2.2.2.2.2.2.2 hown (mi_xfit _ tlt) mi_xcfit hlink (F.2.1 _ (mi_xini tlt)) hstr (mi_hat F tx) ?_ (hU.narrow hA0) (hN.narrow hA0) hS (hls.trans F.1.2.2.2.1.symm) t0 t3 t4 t6 t9 ?_ ?_ ?_ hRc hRs F.1.2.2.2.2.1 ?_ (fun z hz => hfree _ (hS.2.2 z hz)) (Nat.le_refl _) (Nat.le_refl _)
  · intro w hw
    rcases List.mem_cons.mp hw with rfl | hw
    · rfl
    · rcases List.mem_cons.mp hw with rfl | hw
      · rfl
      · exact List.all_eq_true.mp hot w hw
  · intro x hx
    rw [F.1.2.2.2.2.2.2.1 (by omega), k11.resolve_left (by omega)] at hx
    cases hx
  · show 2 + 3 < R.frames
    omega
  · show (sw.map fun v => v.category).sum + (13 * (2 + 1) + 43) ≤ R.locals
    omega
  · intro t9 hal hz hk
    refine hXC t9 ad (mi_le_rf _) ⟨ws, hrw, hP.kept (fun k q hq => hk q.1 ((hP k q hq).lt)), hD.1, fun _ _ _ => trivial⟩ hin ⟨Nat.le_trans hS.1 hz, fun q h1 h2 => (hk q (Nat.lt_of_lt_of_le h1 hS.1)).trans (hS.2.1 q h1 h2)⟩
theorem mi_callx_ok {n : Nat} (ih : mi_S X n) (hM : mi_mok M = true) (F : mi_Fr p l R s m args meth c M (d + 1) X cn ids D A sz0) {i : Instr} (hd : decode (mi_bt M) pc = .ok (i, 3)) (hls : ls.size = mi_nL M) {av rest : List Value} (hc : mi_cal M i st h = some (M', av, rest)) (hcat : mi_cat av ≤ mi_nL M') {x p' : Nat} {mc ms : Nat} (hk1 : mi_kd M' = 1) (hhnd : mi_hnd M pc x = some p')
    (hrun : mi_run X n d M' 0 (lv_args 0 av) [] h 0 0 = some (.inr x, h', mc, ms)) (hRc : cells + mc ≤ R.cells) (hRs : slots + ms ≤ R.slots) (hw : mi_Wd D ids cn A s ad h H locs) (hs : mi_rl ad cn st sw)
    (kk : mi_KH p l e R s m args below meth c Q D ids cn A ls ad p' [.float 0] h' (cells + mc) (slots + ms)) : W p l e R s m args below meth c H locs cells slots Q (F0 m pc ls sw) := by
  have ho := (mi_mok_spec hM).2.2.2.2.2.1
  have hst : l.stackTraces = false := F.2.2.2.2.2.2.2.2
  have hS := (mi_Wc_of hw).2.2
  have hAf := mi_Af_A F hw
  unfold mi_cal at hc
  split at hc
  next idx =>
    split at hc
    next k hk =>
      split at hc
      next M9 hM9 =>
        split at hc
        next hcond =>
          cases hc
          obtain ⟨-, hlt, hct, hrc⟩ := hcond
          have hMm : M' ∈ mi_mt := List.mem_of_getElem? hM9
          obtain ⟨As, b, rw', rfl, hAs, hb, hav, hre⟩ := mi_split _ hs hlt
          obtain ⟨a, rfl, hcell⟩ := mi_recv F hw hb hrc
          obtain ⟨i1, i2, i3⟩ := mi_mw1 hMm hk1
          have hcls : mi_on (mi_ow M') = (mi_y M').cls := (mi_mok_spec (mi_ok hMm)).2.2.2.2.1.symm
          rw [hcls] at hcell
          have hr := vx_runV (e := e) (below := below) (meth := meth) (locs := locs) (rest := rw') (g := F0 m pc ls (As.reverse ++ .ref a :: rw')) (mi_fix F) (mi_metx (sz := H.size) (sz0 := sz0) (ids := ids) (D := D) ih hMm hst hk1 hrun hav hcat) ⟨mi_cB hM F hMm (by omega) (mi_ml_in ho hk hM9) i3 mc ms, F.2.1 _ i1, F.2.1 _ i2⟩ ⟨mi_Pc_blind, hcell, mi_pre F hw _⟩ rfl hAs hls rfl (mi_room hre hct rfl) hd ⟨hRc, hRs⟩
          intro T hT X'
          rcases hr T hT X' with ⟨v0, st₀, t, T', L, h0, X2, hL, e1, e2, hF, st2⟩ | ⟨q, st₀, t, T', L, E, ce, h0, X2, hL, e1, e2, ⟨hE, ⟨ad', hle, hWc, hin⟩, hFr⟩, hce, hcv, hcl, st2⟩
          · exact hF.elim
          · obtain ⟨j1, j2, j3⟩ := vx_keep h0 e1 hS (fun q _ hq => hAf q hq) hAf hL hFr
            subst hE
            unfold mi_hnd at hhnd
            split at hhnd
            next z hz =>
              split at hhnd
              next hzx =>
                cases hhnd
                obtain ⟨as, bs, hab, hcov, hpass⟩ := mi_fnd_ok hz
                have hxl := mi_xl_ok _ ho _ (mi_lk_mem hzx)
                obtain ⟨y, hy, hyx⟩ := mi_xs_all x hxl.2
                have hcast : (Cond.castable (mi_xn x) (mi_xn x)).before args s = true := by
                  refine mi_hat F hy _ ?_
                  rw [hyx]
                  exact List.mem_filter.mpr ⟨by simp [Bundle.ownAtoms], by simp [vx_no]⟩
                have hww : vx_W p l e R s m args below meth c T'.heap (locs ++ L) (cells + mc) (slots + ms) Q (F0 m pc ls rw') q := by
                  refine vx_catch (own := mi_on (mi_ow M)) (name := mi_xn x) (E := mi_xn x) (ce := ce) F.1.2.2.2.2.2.2.2 (tableOf as) ⟨z.1, z.2.1, z.2.2.1, z.2.2.2⟩ (tableOf bs) ?_ ?_ hcov hxl.1 (F.2.1 _ (mi_xl_in ho hzx)) hcast (by rw [e1]; exact hce) hcv hcl ?_
                  · have hk4 : mi_kd M ≠ 4 := by
                      rcases (mi_mok_spec hM).2.2.2.2.2.2.2.2.2.2 with hk9 | hk9
                      · omega
                      · rw [hk9] at hab
                        exact absurd (congrArg List.length hab) (by simp)
                    rw [F.1.2.2.2.2.2.2.1 hk4, hab]
                    simp [tableOf]
                  · intro y9 hy9
                    obtain ⟨a9, ha9, rfl⟩ := List.mem_map.mp hy9
                    exact Or.inl (hpass a9 ha9)
                  · exact kk _ _ ad' _ hle (mi_Wd_of (by rw [e1]; exact hWc) (fun a ha => hAf a (hin a ha)) j3) (mi_rl_c (v := .float 0) (Or.inr ⟨q, rfl⟩) rfl)
                obtain ⟨t2, a1, b1⟩ := hww T' rfl X2
                exact ⟨t2, st2.trans a1, b1⟩
              next => cases hhnd
            next => cases hhnd
        next => cases hc
      next => cases hc
    next => cases hc
  next idx =>
    exfalso
    split at hc
    next k hk =>
      split at hc
      next M9 hM9 =>
        split at hc
        next hcond => cases hc; omega
        next => cases hc
      next => cases hc
    next => cases hc
  next idx =>
    exfalso
    split at hc
    next k hk =>
      split at hc
      next M9 hM9 =>
        split at hc
        next hcond => cases hc; omega
        next => cases hc
      next => cases hc
    next => cases hc
  next => cases hc
end MIT
