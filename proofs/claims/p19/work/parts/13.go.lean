/-! ===== the calls themselves ===== -/
section MIX
variable {l : Launch} {d sz0 sz : Nat} {h h' : mi_H} {ad : List Nat} {cn : Nat → Nat} {ids : Nat → ClassId} {D : va_G} {X : mi_X} {M : mi_M} {av aw : List Value}
theorem mi_metx {n : Nat} (ih : mi_S X n) (hM : M ∈ mi_mt) (hst : l.stackTraces = false) (hk : mi_kd M = 1) {x : Nat} {mc ms : Nat} (hrun : mi_run X n d M 0 (lv_args 0 av) [] h 0 0 = some (.inr x, h', mc, ms)) (hargs : mi_rl ad cn av aw) (hcat : mi_cat av ≤ mi_nL M) :
    vx_Met l (mi_y M) (mi_Ws M) { frames := d, cells := mc, slots := ms, locals := 40 * d } (mi_Pc X cn ids D sz0 ad h sz aw) (fun _ _ _ _ => False) (mi_Qx cn ids D ad sz x h') mc ms (mi_Af ad sz) := by
  have hpl := (mi_mok_spec (mi_ok hM)).1
  have hkd := (mi_mok_spec (mi_ok hM)).2.2.2.2.2.2.2.2.2.2
  have hk3 : ¬ mi_kd M = 3 := by omega
  refine vx_ofW (cc := mi_bt M) (maxL := mi_nL M) (ret := mi_rt M) (ws' := mi_need) hpl (by unfold mi_Ws mi_hw; rw [if_neg hk3]) ?_
  intro p e s m args below meth c s₁ B hml htab hv
  have ht : c.exceptionTable.toList = tableOf (mi_hd M) := by
    rw [List.eq_nil_iff_forall_not_mem.mpr (fun a ha => htab a ha), hkd.resolve_left hk3]
    rfl
  have F := mi_FrOf (d := d) hM hst (Nat.le_refl _) (Nat.le_refl _) B hml ht hv
  refine mi_W0 ih hM F hv hrun hargs hcat (Nat.le_refl _) (Nat.le_refl _) ?_
  exact ⟨fun _ _ _ _ => False, mi_Qx cn ids D ad sz x h', mi_Af ad sz, rfl, fun _ hq => hq, fun t ad' hle hWc hin hF => ⟨rfl, ⟨ad', hle, hWc, hin⟩, hF⟩⟩
end MIX
theorem mi_mw1 {M : mi_M} (hM : M ∈ mi_mt) (hk : mi_kd M = 1) : Cond.instanceMethod (mi_y M) ∈ mi_need ∧ Cond.selects (mi_y M).cls (mi_y M) (mi_y M) ∈ mi_need ∧ Cond.initialized (mi_y M).cls ∈ mi_need := by
  have hn : ¬ (mi_kd M = 0 ∨ mi_kd M = 3) := by omega
  refine ⟨mi_in1 hM ?_, mi_in1 hM ?_, mi_in1 hM ?_⟩ <;> unfold mi_mw <;> rw [if_neg hn, if_pos hk] <;> simp
theorem mi_mw2 {M : mi_M} (hM : M ∈ mi_mt) (hk : mi_kd M = 2) : Cond.instanceMethod (mi_y M) ∈ mi_need ∧ Cond.initialized (mi_y M).cls ∈ mi_need := by
  have hn : ¬ (mi_kd M = 0 ∨ mi_kd M = 3) := by omega
  have hn1 : ¬ mi_kd M = 1 := by omega
  refine ⟨mi_in1 hM ?_, mi_in1 hM ?_⟩ <;> unfold mi_mw <;> rw [if_neg hn, if_neg hn1] <;> simp
theorem mi_mw0 {M : mi_M} (hM : M ∈ mi_mt) (hk : mi_kd M = 0 ∨ mi_kd M = 3) : Cond.static (mi_y M) ∈ mi_need ∧ Cond.initialized (mi_y M).cls ∈ mi_need := by
  have hn1 : ¬ mi_kd M = 1 := by omega
  refine ⟨mi_in1 hM ?_, mi_in1 hM ?_⟩ <;> unfold mi_mw <;> rw [if_pos hk, if_neg hn1] <;> simp
theorem mi_gG {w : Cond} {ws : List Cond} (h1 : w ∈ mi_need) (h2 : GoodIn mi_need ws) : GoodIn mi_need (w :: ws) := fun x hx => by
  rcases List.mem_cons.mp hx with rfl | hx
  · exact ⟨h1, (mi_gn _ h1).2⟩
  · exact h2 x hx
section MIY
variable {p : Program} {l : Launch} {e : Env} {R : Room} {s : State} {m : MethodId} {args : Array Value} {below : List Frame} {meth : Method} {c : Code} {H : Heap} {locs : List Loc} {cells slots : Nat} {Q : State → Prop}
variable {pc d sz0 : Nat} {st : List Value} {h h' : mi_H} {ad : List Nat} {cn : Nat → Nat} {ids : Nat → ClassId} {D : va_G} {A : Nat → Prop} {sw : List Value} {ls : Array Slot} {X : mi_X} {M M' : mi_M}
theorem mi_pre (F : mi_Fr p l R s m args meth c M d X cn ids D A sz0) (hw : mi_Wd D ids cn A s ad h H locs) (aw : List Value) : ∀ U : State, U.heap = H → s.WarmedH U.vm → mi_Pc X cn ids D sz0 ad h H.size aw aw.toArray U := by
  obtain ⟨-, -, -, hA0, hz0, hGl, -⟩ := F
  obtain ⟨hWc, hin, hS⟩ := mi_Wc_of hw
  intro U hU hW
  refine ⟨rfl, by rw [hU], Nat.le_trans hz0 hS.1, fun a ha => hA0 a (hin a ha), mi_Gl_next hW (by rw [hU]; exact hS.1) (fun a ha hn => by rw [hU]; exact hS.2.1 a ha (fun q => hn (hA0 a q))) hGl, by rw [hU]; exact hWc⟩
theorem mi_Af_A (F : mi_Fr p l R s m args meth c M d X cn ids D A sz0) (hw : mi_Wd D ids cn A s ad h H locs) : ∀ q, mi_Af ad H.size q → A q := by
  obtain ⟨-, -, hA, -⟩ := F
  obtain ⟨-, hin, hS⟩ := mi_Wc_of hw
  intro q hq
  rcases hq with hq | hq
  · exact hin q hq
  · exact hA q (Nat.le_trans hS.1 hq)
/-- the receiver's class is the method's -/
theorem mi_recv (F : mi_Fr p l R s m args meth c M d X cn ids D A sz0) (hw : mi_Wd D ids cn A s ad h H locs) {v b : Value} {ow : Nat} (hv : mi_rv ad cn v b) (hr : mi_rc h v ow = true) : ∃ a : Nat, b = .ref a ∧ ∃ cellB : Cell, H[a]? = some cellB ∧ cellB.vm.isStatics = false ∧ s.vm.findClass (mi_on ow) = some cellB.cls := by
  obtain ⟨-, -, -, hA0, -, hGl, -⟩ := F
  obtain ⟨ws, hrw, hP, hD, hS⟩ := hw
  unfold mi_rc at hr
  split at hr
  next k =>
    obtain ⟨a, ha, rfl⟩ := hv
    split at hr
    next x hx =>
      obtain ⟨a', e', g1, g2, gs, rfl, g4⟩ := hrw.2.2 _ _ hx
      cases g1.symm.trans ha
      obtain ⟨q, hq, -⟩ := hP k _ g2
      have hq' : mi_cl[x.1]? = some q := hq
      have hx1 : x.1 = ow := beq_iff_eq.mp hr
      obtain ⟨cell, c1, c2, c3⟩ := va_recv hGl.1 hP hq' g2
      rw [(mi_clok hq').2.2.2.2, hx1] at c3
      exact ⟨_, rfl, cell, c1, c2, c3⟩
    next => cases hr
  next k =>
    have hv' : b = .ref (cn k) := hv
    subst hv'
    simp only [Bool.and_eq_true, beq_iff_eq, decide_eq_true_eq] at hr
    obtain ⟨hk, hkn, rfl⟩ := hr
    have hG : mi_Gc X cn A s s.heap := mi_Gc_nar hA0 hGl.2.1
    obtain ⟨g1, -⟩ := hG.1 (k / 4) hkn
    rw [show 4 * (k / 4) = k by omega] at g1
    obtain ⟨cell, c1, c2, c3, -⟩ := g1.kept hS.2.1
    exact ⟨_, rfl, cell, c1, c2, c3⟩
  next => cases hr
/-- what the machine wants of a call that is found by its link -/
theorem mi_cB (hM : mi_mok M = true) (F : mi_Fr p l R s m args meth c M (d + 1) X cn ids D A sz0) (hM' : M' ∈ mi_mt) (hk3 : ¬ mi_kd M' = 3) {idx : Nat} (hl : Cond.methodLink (mi_on (mi_ow M)) idx (mi_y M') ∈ mi_need) (hini : Cond.initialized (mi_y M').cls ∈ mi_need) (mc ms : Nat) :
    CallB R s args (mi_on (mi_ow M)) idx (mi_y M') (mi_bt M') (mi_nL M') (mi_rt M') (mi_Ws M') { frames := d, cells := mc, slots := ms, locals := 40 * d } mc ms (mi_np M') := by
  obtain ⟨-, hts, -, -, -, -, hRf, hRl, -⟩ := F
  obtain ⟨k1, k2, k3, k4, k5, k6, k7, k8, -⟩ := mi_mok_spec (mi_ok hM')
  refine callB_of (ws' := mi_need) (mi_np M') hts (mi_gW hM') (by unfold mi_Ws mi_hw; rw [if_neg hk3]) rfl rfl (hts _ hini) (hts _ hl) ⟨k2, k3, k4⟩ ⟨hRf, ?_⟩
  show 8 + (mi_nL M' + 11) + 40 * d ≤ R.locals
  omega
theorem mi_fix (F : mi_Fr p l R s m args meth c M d X cn ids D A sz0) : CallFix p m c (mi_bt M) (mi_nL M) s args mi_need (mi_on (mi_ow M)) := ⟨F.1.1, F.1.2.1, F.1.2.2.2.1, F.1.2.2.2.2.2.2.2, F.2.1⟩
theorem mi_room {st : List Value} (hr : mi_rl ad cn st sw) (hc : mi_cat st ≤ 8) {g : JFrame} (hg : g.monitorRoom = 0) : 2 * g.monitorRoom + (sw.map fun v => v.category).sum ≤ 8 := by
  rw [hg, mi_rl_cat hr]
  omega
set_option maxHeartbeats 1000000 in
theorem mi_call_ok {n : Nat} (ih : mi_S X n) (hM : mi_mok M = true) (F : mi_Fr p l R s m args meth c M (d + 1) X cn ids D A sz0) {i : Instr} (hd : decode (mi_bt M) pc = .ok (i, 3)) (hls : ls.size = mi_nL M) {av rest : List Value} (hc : mi_cal M i st h = some (M', av, rest)) (hcat : mi_cat av ≤ mi_nL M') {v : Option Value} {mc ms : Nat}
    (hrun : mi_run X n d M' 0 (lv_args 0 av) [] h 0 0 = some (.inl v, h', mc, ms)) (hRc : cells + mc ≤ R.cells) (hRs : slots + ms ≤ R.slots) (hw : mi_Wd D ids cn A s ad h H locs) (hs : mi_rl ad cn st sw)
    (kk : mi_KH p l e R s m args below meth c Q D ids cn A ls ad (pc + 3) (v.toList ++ rest) h' (cells + mc) (slots + ms)) : W p l e R s m args below meth c H locs cells slots Q (F0 m pc ls sw) := by
  have ho := (mi_mok_spec hM).2.2.2.2.2.1
  have hst : l.stackTraces = false := F.2.2.2.2.2.2.2.2
  have hS := (mi_Wc_of hw).2.2
  have hAf := mi_Af_A F hw
  unfold mi_cal at hc
  split at hc
  next idx =>
    split at hc
    next k hk =>
      split at hc
      next M9 hM9 =>
        split at hc
        next hcond =>
          cases hc
          obtain ⟨hk1, hlt, hct, hrc⟩ := hcond
          have hMm : M' ∈ mi_mt := List.mem_of_getElem? hM9
          obtain ⟨As, b, rw', rfl, hAs, hb, hav, hre⟩ := mi_split _ hs hlt
          obtain ⟨a, rfl, hcell⟩ := mi_recv F hw hb hrc
          obtain ⟨i1, i2, i3⟩ := mi_mw1 hMm hk1
          have hcls : mi_on (mi_ow M') = (mi_y M').cls := (mi_mok_spec (mi_ok hMm)).2.2.2.2.1.symm
          rw [hcls] at hcell
          refine mi_callm (va_runV (mi_fix F) (mi_met (sz := H.size) ih hMm hst hrun hav hcat) ⟨mi_cB hM F hMm (by omega) (mi_ml_in ho hk hM9) i3 mc ms, F.2.1 _ i1, F.2.1 _ i2⟩ ⟨mi_Pc_blind, hcell, mi_pre F hw _⟩ rfl hAs hls rfl (mi_room hre hct rfl) hd ⟨hRc, hRs⟩) hS hAf hAf ?_
          exact fun w ad' H1 locs1 hle hv hw1 => kk _ _ _ _ hle hw1 (mi_rvo_st hv (mi_rl_mono hle hre))
        next => cases hc
      next => cases hc
    next => cases hc
  next idx =>
    split at hc
    next k hk =>
      split at hc
      next M9 hM9 =>
        split at hc
        next hcond =>
          cases hc
          obtain ⟨hk1, hlt, hct⟩ := hcond
          have hMm : M' ∈ mi_mt := List.mem_of_getElem? hM9
          obtain ⟨As, rw', rfl, hAs, hav, hre⟩ := mi_splitS _ hs hlt
          obtain ⟨i1, i3⟩ := mi_mw0 hMm hk1
          have fin : ∀ (w : Option Value) (ad' : List Nat) (H1 : Heap) (locs1 : List Loc), mi_le ad ad' → mi_rvo ad' cn v w → mi_Wd D ids cn A s ad' h' H1 locs1 → W p l e R s m args below meth c H1 locs1 (cells + mc) (slots + ms) Q (F0 m (pc + 3) ls (w.toList ++ rw')) :=
            fun w ad' H1 locs1 hle hv hw1 => kk _ _ _ _ hle hw1 (mi_rvo_st hv (mi_rl_mono hle hre))
          by_cases hk3 : mi_kd M' = 3
          · obtain ⟨k1, k2, k3, k4, k5, k6, k7, k8, -⟩ := mi_mok_spec (mi_ok hMm)
            have hRf : d + 1 ≤ R.frames := F.2.2.2.2.2.2.1
            have hRl : 40 * (d + 1) ≤ R.locals := F.2.2.2.2.2.2.2.1
            have cw : vx_CSW R s args (mi_on (mi_ow M)) idx (mi_y M') (mi_bt M') (mi_nL M') (mi_rt M') (mi_hd M') (mi_Ws M') { frames := d, cells := mc, slots := ms, locals := 40 * d } mc ms (mi_np M') :=
              vx_cwSW (ws' := mi_need) (mi_np M') F.2.1 (mi_gG (mi_ml_in ho hk hM9) (mi_gG i1 (mi_gG i3 (mi_gW hMm)))) (by unfold mi_Ws mi_hw; rw [if_pos hk3]) rfl rfl ⟨k2, k3, k4⟩ ⟨hRf, by show 8 + (mi_nL M' + 11) + 40 * d ≤ R.locals; omega⟩
            exact mi_callm (vx_runSW (mi_fix F) (mi_met (sz := H.size) ih hMm hst hrun hav hcat) cw ⟨mi_Pc_blind, mi_pre F hw _⟩ rfl hAs hls rfl (mi_room hre hct rfl) hd ⟨hRc, hRs⟩) hS hAf hAf fin
          · exact mi_callm (va_runS (mi_fix F) (mi_met (sz := H.size) ih hMm hst hrun hav hcat) ⟨mi_cB hM F hMm hk3 (mi_ml_in ho hk hM9) i3 mc ms, F.2.1 _ i1⟩ ⟨mi_Pc_blind, mi_pre F hw _⟩ rfl hAs hls rfl (mi_room hre hct rfl) hd ⟨hRc, hRs⟩) hS hAf hAf fin
        next => cases hc
      next => cases hc
    next => cases hc
  next idx =>
    split at hc
    next k hk =>
      split at hc
      next M9 hM9 =>
        split at hc
        next hcond =>
          cases hc
          obtain ⟨hk1, hrt, hlt, hct, hrc⟩ := hcond
          have hMm : M' ∈ mi_mt := List.mem_of_getElem? hM9
          obtain ⟨As, b, rw', rfl, hAs, hb, hav, hre⟩ := mi_split _ hs hlt
          obtain ⟨k1, k2, k3, k4, k5, k6, k7, k8, -⟩ := mi_mok_spec (mi_ok hMm)
          have hRf : d + 1 ≤ R.frames := F.2.2.2.2.2.2.1
          have hRl : 40 * (d + 1) ≤ R.locals := F.2.2.2.2.2.2.2.1
          obtain ⟨i1, i3⟩ := mi_mw2 hMm hk1
          have hbr : ∃ a : Nat, b = .ref a := by
            generalize st.getD (mi_np M') .null = v0 at hb hrc
            cases v0 <;> first | (exact absurd hrc Bool.false_ne_true) | (obtain ⟨a, -, e⟩ := hb; exact ⟨a, e⟩)
          obtain ⟨a, rfl⟩ := hbr
          have hk3 : ¬ mi_kd M' = 3 := by omega
          have fin : ∀ (w : Option Value) (ad' : List Nat) (H1 : Heap) (locs1 : List Loc), mi_le ad ad' → mi_rvo ad' cn v w → mi_Wd D ids cn A s ad' h' H1 locs1 → W p l e R s m args below meth c H1 locs1 (cells + mc) (slots + ms) Q (F0 m (pc + 3) ls (w.toList ++ rw')) :=
            fun w ad' H1 locs1 hle hv hw1 => kk _ _ _ _ hle hw1 (mi_rvo_st hv (mi_rl_mono hle hre))
          have hmet := mi_met (sz0 := sz0) (ids := ids) (D := D) (sz := H.size) ih hMm hst hrun hav hcat
          split at hk
          next k' hk' =>
            cases hk
            have hB := mi_cB hM F hMm hk3 (mi_ml_in ho hk' hM9) i3 mc ms
            rw [hrt] at hB
            exact mi_callm (va_runI (mi_fix F) hmet ⟨hB, k8 hk1, F.2.1 _ i1⟩ ⟨mi_Pc_blind, mi_pre F hw _⟩ rfl hAs hls rfl (mi_room hre hct rfl) hd ⟨hRc, hRs⟩) hS hAf hAf fin
          next =>
            have hbad := F.2.2.2.2.2.1.2.2.2.1 _ (mi_nm_in ho hk hM9)
            have cw : va_CN R s args (mi_on (mi_ow M)) idx (mi_y M') "TypeLoom" (mi_bt M') (mi_nL M') none (mi_Ws M') { frames := d, cells := mc, slots := ms, locals := 40 * d } mc ms (mi_np M') :=
              va_cnB (ws' := mi_need) (mi_np M') F.2.1 (mi_gW hMm) (by unfold mi_Ws mi_hw; rw [if_neg hk3, hrt]) rfl rfl hbad (F.2.1 _ i3) ⟨k2, k3, k4⟩ ⟨hRf, by show 8 + (mi_nL M' + 11) + 40 * d ≤ R.locals; omega⟩
            exact mi_callm (va_runIN (mi_fix F) hmet ⟨cw, k8 hk1, F.2.1 _ i1⟩ ⟨mi_Pc_blind, mi_pre F hw _⟩ rfl hAs hls rfl (mi_room hre hct rfl) hd ⟨hRc, hRs⟩) hS hAf hAf fin
        next => cases hc
      next => cases hc
    next => cases hc
  next => cases hc
end MIY
