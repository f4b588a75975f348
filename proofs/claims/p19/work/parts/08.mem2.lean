section MIH
variable {p : Program} {l : Launch} {e : Env} {R : Room} {s : State} {m : MethodId} {args : Array Value} {below : List Frame} {meth : Method} {c : Code} {H : Heap} {locs : List Loc} {cells slots : Nat} {Q : State → Prop}
variable {cc : ByteArray} {pc pc' c' s' : Nat} {st st' : List Value} {h h' : mi_H} {ad : List Nat} {cn : Nat → Nat} {ids : Nat → ClassId} {D : va_G} {A : Nat → Prop} {sw : List Value} {ls : Array Slot}
/-- the way on behind an instruction that may write or make cells -/
abbrev mi_KH (p : Program) (l : Launch) (e : Env) (R : Room) (s : State) (m : MethodId) (args : Array Value) (below : List Frame) (meth : Method) (c : Code) (Q : State → Prop) (D : va_G) (ids : Nat → ClassId) (cn : Nat → Nat) (A : Nat → Prop) (ls : Array Slot) (ad : List Nat) (pc' : Nat) (st' : List Value) (h' : mi_H) (c' s' : Nat) : Prop :=
  ∀ (H' : Heap) (locs' : List Loc) (ad' : List Nat) (sw' : List Value), mi_le ad ad' → mi_Wd D ids cn A s ad' h' H' locs' → mi_rl ad' cn st' sw' → W p l e R s m args below meth c H' locs' c' s' Q (F0 m pc' ls sw')

theorem mi_gf_ok (hx : p.tables.exec = Jvm.exec) (hb : c.code = cc) {o : Nat} (ho : o < mi_no) (hown : s.vm.findClass (mi_on o) = some m.cls) (hts : ∀ w ∈ mi_need, w.before args s = true) (hK : va_K D mi_cl (mi_tys ids) s) {ci j k idx : Nat} {q : vw_C} {r : List Value} (hq : mi_cl[ci]? = some q) (hj : j < q.2.2)
    (hlink : (Cond.fieldLink (mi_on o) idx q.1 (q.2.1 j).2.1 (q.2.1 j).2.2.1).before args s = true ∨ (Cond.fieldLinkNest (mi_on o) idx q.1 (q.2.1 j).2.1 (q.2.1 j).2.2.1 "TypeLoom").before args s = true)
    (hd : decode cc pc = .ok (.getfield idx, 3)) (hh : mi_gf ci j k (pc + 3) r h cells slots = some (pc + 3, st', h', c', s')) (hst : st = .ref k :: r) (hw : mi_Wd D ids cn A s ad h H locs) (hs : mi_rl ad cn st sw) (kk : mi_KH p l e R s m args below meth c Q D ids cn A ls ad (pc + 3) st' h' c' s') : W p l e R s m args below meth c H locs cells slots Q (F0 m pc ls sw) := by
  subst hst
  obtain ⟨hqm, hty, hnm, hT1, -⟩ := mi_clok hq
  obtain ⟨ws, hrw, hP, hD, hS⟩ := hw
  obtain ⟨_, rw', rfl, ⟨a, ha, rfl⟩, hr⟩ := hs
  unfold mi_gf at hh
  split at hh
  next ob hob =>
    split at hh
    next hci =>
      split at hh
      next v hv =>
        cases hh
        obtain ⟨a', e', g1, g2, gs, rfl, g4⟩ := hrw.2.2 _ _ hob
        cases g1.symm.trans ha
        obtain ⟨wv, hwv, hrv⟩ := mi_rl_get g4 hv
        subst hci
        have go := kk _ _ _ _ (mi_le_rf _) ⟨ws, hrw, hP, hD, hS⟩ (mi_rl_c hrv hr)
        have hsame : ∀ x, s.fieldFound? (q.2.1 j).1 (q.2.1 j).2.1 (q.2.1 j).2.2.1 = some x → s.fieldFound? q.1 (q.2.1 j).2.1 (q.2.1 j).2.2.1 = some x := fun x hx => by rw [hT1 j hj] at hx; exact hx
        rcases hlink with hlink | hlink
        · exact va_get (C := q.1) (T := q.2.1) (N := q.2.2) (ref := q.1) (index := idx) hx hb hts (fun w hw => mi_in0 hqm (List.mem_append_left _ hw)) hown hK hP k g2 hq j hj hlink hsame hwv hd go
        · exact va_getN (host := "TypeLoom") (C := q.1) (T := q.2.1) (N := q.2.2) (ref := q.1) (index := idx) hx hb hts (fun w hw => mi_in0 hqm (List.mem_append_left _ hw)) hown hK hP k g2 hq j hj hlink hsame hwv hd go
      next => cases hh
    next => cases hh
  next => cases hh
/-- the tables' field rows name fields -/
theorem mi_fl_ok : ∀ o, o < mi_no → ∀ x ∈ mi_fl o, (match mi_cl[x.2.1]? with | some q => decide (x.2.2 < q.2.2) | none => false) = true := by decide +kernel
theorem mi_nf_ok : ∀ o, o < mi_no → ∀ x ∈ mi_nf o, (match mi_cl[x.2.1]? with | some q => decide (x.2.2 < q.2.2) | none => false) = true := by decide +kernel
theorem mi_getf_ok (hx : p.tables.exec = Jvm.exec) (hb : c.code = cc) {o : Nat} (ho : o < mi_no) (hown : s.vm.findClass (mi_on o) = some m.cls) (hts : ∀ w ∈ mi_need, w.before args s = true) (hK : va_K D mi_cl (mi_tys ids) s) (hbad : ∀ w ∈ mi_bad, w.before args s = true) (hA : ∀ a, s.heap.size ≤ a → A a) {X : mi_X} (hG : mi_Gc X cn A s s.heap) {idx : Nat} (hd : decode cc pc = .ok (.getfield idx, 3)) (hh : mi_getf o idx (pc + 3) st h cells slots = some (pc', st', h', c', s')) (hw : mi_Wd D ids cn A s ad h H locs) (hs : mi_rl ad cn st sw) (kk : mi_KH p l e R s m args below meth c Q D ids cn A ls ad (pc + 3) st' h' c' s') : W p l e R s m args below meth c H locs cells slots Q (F0 m pc ls sw) := by
  unfold mi_getf at hh
  split at hh
  next k r =>
    split at hh
    next x hf =>
      have hm := mi_lk_mem hf
      have h1 := mi_fl_ok o ho _ hm
      split at h1
      next q hq =>
        simp only [decide_eq_true_eq] at h1
        have hlink := hts (mi_flw o (idx, x)) (mi_in2 ho (List.mem_append_left _ (List.mem_map.mpr ⟨_, hm, rfl⟩)))
        unfold mi_flw at hlink
        rw [show mi_cl[((idx, x) : Nat × Nat × Nat).2.1]? = some q from hq] at hlink
        have hpc : pc' = pc + 3 := by
          unfold mi_gf at hh
          split at hh <;> first | (cases hh; done) | skip
          split at hh <;> first | (cases hh; done) | skip
          split at hh <;> first | (cases hh; done) | skip
          cases hh; rfl
        subst hpc
        exact mi_gf_ok hx hb ho hown hts hK hq h1 (Or.inl hlink) hd hh rfl hw hs kk
      next => cases h1
    next =>
      split at hh
      next x hf =>
        have hm := mi_lk_mem hf
        have h1 := mi_nf_ok o ho _ hm
        split at h1
        next q hq =>
          simp only [decide_eq_true_eq] at h1
          have hlink := hbad (mi_nfw o (idx, x)) (List.mem_append_left _ (List.mem_flatMap.mpr ⟨o, List.mem_range.mpr ho, List.mem_append_left _ (List.mem_map.mpr ⟨_, hm, rfl⟩)⟩))
          unfold mi_nfw at hlink
          rw [show mi_cl[((idx, x) : Nat × Nat × Nat).2.1]? = some q from hq] at hlink
          have hpc : pc' = pc + 3 := by
            unfold mi_gf at hh
            split at hh <;> first | (cases hh; done) | skip
            split at hh <;> first | (cases hh; done) | skip
            split at hh <;> first | (cases hh; done) | skip
            cases hh; rfl
          subst hpc
          exact mi_gf_ok hx hb ho hown hts hK hq h1 (Or.inr hlink) hd hh rfl hw hs kk
        next => cases h1
      next => cases hh
  next k r =>
    split at hh
    next j hf =>
      have hm := mi_lk_mem hf
      unfold mi_gs at hh
      split at hh
      next hk =>
        obtain ⟨hk4, hkn⟩ := hk
        have hlink := hts (mi_sfw o (idx, j)) (mi_in2 ho (List.mem_append_right _ (List.mem_append_right _ (List.mem_append_right _ (List.mem_append_right _ (List.mem_append_right _ (List.mem_append_right _ (List.mem_append_right _ (List.mem_append_left _ (List.mem_map.mpr ⟨_, hm, rfl⟩))))))))))
        obtain ⟨ws, hrw, hP, hD, hS⟩ := hw
        obtain ⟨_, rw', rfl, rfl, hr⟩ := hs
        have hke : 4 * (k / 4) = k := by omega
        obtain ⟨-, g2, g3, -⟩ := hG.1 (k / 4) hkn
        rw [hke] at g2 g3
        split at hh
        next hj0 =>
          cases hh
          subst hj0
          have hlink : (Cond.fieldLink (mi_on o) idx "java/lang/String" "value" "[B").before args s = true := hlink
          exact vk_getf hx hb g3 hS hown hlink (fun _ hx => hx) hd (kk _ _ _ _ (mi_le_rf _) ⟨ws, hrw, hP, hD, hS⟩ (mi_rl_c rfl hr))
        next =>
          split at hh
          next hj1 =>
            cases hh
            subst hj1
            have hlink : (Cond.fieldLink (mi_on o) idx "java/lang/String" "coder" "B").before args s = true := hlink
            exact vk_getf hx hb g2 hS hown hlink (fun _ hx => hx) hd (kk _ _ _ _ (mi_le_rf _) ⟨ws, hrw, hP, hD, hS⟩ (mi_rl_c rfl hr))
          next => cases hh
      next => cases hh
    next => cases hh
  next => cases hh
theorem mi_putf_ok (hx : p.tables.exec = Jvm.exec) (hb : c.code = cc) {M : mi_M} (ho : mi_ow M < mi_no) (hown : s.vm.findClass (mi_on (mi_ow M)) = some m.cls) (hts : ∀ w ∈ mi_need, w.before args s = true) (hK : va_K D mi_cl (mi_tys ids) s) (hin2 : mi_kd M = 2 → meth.name = "<init>") {idx : Nat} (hd : decode cc pc = .ok (.putfield idx, 3)) (hh : mi_putf M idx (pc + 3) st h cells slots = some (pc', st', h', c', s')) (hw : mi_Wd D ids cn A s ad h H locs) (hs : mi_rl ad cn st sw) (kk : mi_KH p l e R s m args below meth c Q D ids cn A ls ad pc' st' h' c' s') : W p l e R s m args below meth c H locs cells slots Q (F0 m pc ls sw) := by
  unfold mi_putf at hh
  split at hh
  next v k r =>
    split at hh
    next x hf =>
      have hm := mi_lk_mem hf
      have h1 := mi_fl_ok _ ho _ hm
      split at h1
      next q hq =>
        simp only [decide_eq_true_eq] at h1
        have hlink := hts (mi_flw _ (idx, x)) (mi_in2 ho (List.mem_append_left _ (List.mem_map.mpr ⟨_, hm, rfl⟩)))
        unfold mi_flw at hlink
        rw [show mi_cl[((idx, x) : Nat × Nat × Nat).2.1]? = some q from hq] at hlink
        have hq' : mi_cl[x.1]? = some q := hq
        obtain ⟨hqm, hty, hnm, hT1, hqn⟩ := mi_clok hq'
        obtain ⟨ws, hrw, hP, hD, hS⟩ := hw
        obtain ⟨wv, _, rfl, hv, _, rw', rfl, ⟨a, ha, rfl⟩, hr⟩ := hs
        unfold mi_pf at hh
        split at hh
        next ob hob =>
          split at hh
          next hc =>
            obtain ⟨hci, hjl, hfit, hwr⟩ := hc
            cases hh
            obtain ⟨a', e', g1, g2, gs, rfl, g4⟩ := hrw.2.2 _ _ hob
            cases g1.symm.trans ha
            obtain ⟨hn1, hf1⟩ := mi_fit_ok hfit hv
            have hsame : ∀ z, s.fieldFound? (q.2.1 x.2).1 (q.2.1 x.2).2.1 (q.2.1 x.2).2.2.1 = some z → s.fieldFound? q.1 (q.2.1 x.2).2.1 (q.2.1 x.2).2.2.1 = some z := fun z hz => by rw [hT1 x.2 h1] at hz; exact hz
            have hlen : x.2 < gs.length := by rw [mi_rl_len g4]; exact hjl
            have g2' : ws[k]? = some (a, .inr (x.1, gs)) := by rw [← hci]; exact g2
            have fin : ∀ (H1 : Heap) (locs1 : List Loc), va_P D mi_cl (ws.set k (a, .inr (x.1, gs.set x.2 wv))) H1 → va_D A (ws.set k (a, .inr (x.1, gs.set x.2 wv))) → va_S A s.heap H1 locs1 → W p l e R s m args below meth c H1 locs1 cells slots Q (F0 m (pc + 3) ls rw') :=
              fun H1 locs1 hP1 hD1 hS1 => kk _ _ _ _ (mi_le_rf _) ⟨_, mi_rw_set hrw ha ⟨_, rfl, mi_rl_set hv x.2 g4⟩, hP1, hD1, hS1⟩ hr
            have hnf : mi_fin x.1 x.2 = (q.2.1 x.2).2.2.2 := by unfold mi_fin; rw [hq']
            cases hfn : (q.2.1 x.2).2.2.2 with
            | false => exact va_put (C := q.1) (T := q.2.1) (N := q.2.2) (ref := q.1) (index := idx) hx hb hts (fun w hw => mi_in0 hqm (List.mem_append_left _ hw)) (mi_ty x.1) hty hnm hown hK hP hD hS k g2' hq' x.2 h1 hlink hsame hfn (hty x.2 h1) hn1 hf1 hlen hd fin
            | true =>
              rcases hwr with hwr | ⟨hk2, hown2⟩
              · rw [hnf, hfn] at hwr; cases hwr
              · exact va_putF (C := q.1) (T := q.2.1) (N := q.2.2) (ref := q.1) (index := idx) hx hb hts (fun w hw => mi_in0 hqm (List.mem_append_left _ hw)) (mi_ty x.1) hty hnm hown hK hP hD hS k g2' hq' x.2 h1 hlink hsame hfn (hin2 hk2) (by rw [hT1 x.2 h1, hqn, hown2]) (hty x.2 h1) hn1 hf1 hlen hd fin
          next => cases hh
        next => cases hh
      next => cases h1
    next => cases hh
  next => cases hh

theorem mi_iald_ok (hx : p.tables.exec = Jvm.exec) (hb : c.code = cc) (hK : va_K D mi_cl (mi_tys ids) s) (hd : decode cc pc = .ok (.iaload, 1)) (hh : mi_ald 0 (pc + 1) st h cells slots = some (pc', st', h', c', s')) (hw : mi_Wd D ids cn A s ad h H locs) (hs : mi_rl ad cn st sw) (kk : mi_KH p l e R s m args below meth c Q D ids cn A ls ad pc' st' h' c' s') : W p l e R s m args below meth c H locs cells slots Q (F0 m pc ls sw) := by
  unfold mi_ald at hh
  split at hh
  next j k r =>
    obtain ⟨ws, hrw, hP, hD, hS⟩ := hw
    obtain ⟨_, _, rfl, rfl, _, rw', rfl, ⟨a, ha, rfl⟩, hr⟩ := hs
    split at hh
    next t' n f hob =>
      split at hh
      next hc =>
        obtain ⟨rfl, hin⟩ := hc
        cases hh
        obtain ⟨a', e', g1, g2, g3⟩ := hrw.2.2 _ _ hob
        cases g1.symm.trans ha
        have g3 : e' = .inl (ids 0, n, .inl f) := g3
        subst g3
        exact va_iald hx hb hK hP k 0 g2 rfl (mi_inb_ok hin) hd (kk _ _ _ _ (mi_le_rf _) ⟨ws, hrw, hP, hD, hS⟩ (mi_rl_c rfl hr))
      next => cases hh
    next => cases hh
  next => cases hh
theorem mi_bald_ok (hx : p.tables.exec = Jvm.exec) (hb : c.code = cc) (hK : va_K D mi_cl (mi_tys ids) s) (hd : decode cc pc = .ok (.baload, 1)) (hh : mi_ald 2 (pc + 1) st h cells slots = some (pc', st', h', c', s')) (hw : mi_Wd D ids cn A s ad h H locs) (hs : mi_rl ad cn st sw) (kk : mi_KH p l e R s m args below meth c Q D ids cn A ls ad pc' st' h' c' s') : W p l e R s m args below meth c H locs cells slots Q (F0 m pc ls sw) := by
  unfold mi_ald at hh
  split at hh
  next j k r =>
    obtain ⟨ws, hrw, hP, hD, hS⟩ := hw
    obtain ⟨_, _, rfl, rfl, _, rw', rfl, ⟨a, ha, rfl⟩, hr⟩ := hs
    split at hh
    next t' n f hob =>
      split at hh
      next hc =>
        obtain ⟨rfl, hin⟩ := hc
        cases hh
        obtain ⟨a', e', g1, g2, g3⟩ := hrw.2.2 _ _ hob
        cases g1.symm.trans ha
        have g3 : e' = .inl (ids 2, n, .inl f) := g3
        subst g3
        exact va_bald hx hb hK hP k 2 g2 rfl (mi_inb_ok hin) hd (kk _ _ _ _ (mi_le_rf _) ⟨ws, hrw, hP, hD, hS⟩ (mi_rl_c rfl hr))
      next => cases hh
    next => cases hh
  next => cases hh
theorem mi_zald_ok (hx : p.tables.exec = Jvm.exec) (hb : c.code = cc) (hK : va_K D mi_cl (mi_tys ids) s) (hd : decode cc pc = .ok (.baload, 1)) (hh : mi_ald 3 (pc + 1) st h cells slots = some (pc', st', h', c', s')) (hw : mi_Wd D ids cn A s ad h H locs) (hs : mi_rl ad cn st sw) (kk : mi_KH p l e R s m args below meth c Q D ids cn A ls ad pc' st' h' c' s') : W p l e R s m args below meth c H locs cells slots Q (F0 m pc ls sw) := by
  unfold mi_ald at hh
  split at hh
  next j k r =>
    obtain ⟨ws, hrw, hP, hD, hS⟩ := hw
    obtain ⟨_, _, rfl, rfl, _, rw', rfl, ⟨a, ha, rfl⟩, hr⟩ := hs
    split at hh
    next t' n f hob =>
      split at hh
      next hc =>
        obtain ⟨rfl, hin⟩ := hc
        cases hh
        obtain ⟨a', e', g1, g2, g3⟩ := hrw.2.2 _ _ hob
        cases g1.symm.trans ha
        have g3 : e' = .inl (ids 3, n, .inl f) := g3
        subst g3
        exact va_zald hx hb hK hP k 3 g2 rfl (mi_inb_ok hin) hd (kk _ _ _ _ (mi_le_rf _) ⟨ws, hrw, hP, hD, hS⟩ (mi_rl_c rfl hr))
      next => cases hh
    next => cases hh
  next => cases hh
theorem mi_lald_ok (hx : p.tables.exec = Jvm.exec) (hb : c.code = cc) (hK : va_K D mi_cl (mi_tys ids) s) (hd : decode cc pc = .ok (.laload, 1)) (hh : mi_lald (pc + 1) st h cells slots = some (pc', st', h', c', s')) (hw : mi_Wd D ids cn A s ad h H locs) (hs : mi_rl ad cn st sw) (kk : mi_KH p l e R s m args below meth c Q D ids cn A ls ad pc' st' h' c' s') : W p l e R s m args below meth c H locs cells slots Q (F0 m pc ls sw) := by
  unfold mi_lald at hh
  split at hh
  next j k r =>
    obtain ⟨ws, hrw, hP, hD, hS⟩ := hw
    obtain ⟨_, _, rfl, rfl, _, rw', rfl, ⟨a, ha, rfl⟩, hr⟩ := hs
    split at hh
    next t' n f hob =>
      split at hh
      next hc =>
        obtain ⟨rfl, hin⟩ := hc
        cases hh
        obtain ⟨a', e', g1, g2, g3⟩ := hrw.2.2 _ _ hob
        cases g1.symm.trans ha
        have g3 : e' = .inl (ids 1, n, .inr (.inl f)) := g3
        subst g3
        exact va_lald hx hb hK hP k 1 g2 rfl (mi_inb_ok hin) hd (kk _ _ _ _ (mi_le_rf _) ⟨ws, hrw, hP, hD, hS⟩ (mi_rl_c rfl hr))
      next => cases hh
    next => cases hh
  next => cases hh
theorem mi_sld_ok (hx : p.tables.exec = Jvm.exec) (hb : c.code = cc) {X : mi_X} (hG : mi_Gc X cn A s s.heap) (hd : decode cc pc = .ok (.iaload, 1)) (hh : mi_sld X (pc + 1) st h cells slots = some (pc', st', h', c', s')) (hw : mi_Wd D ids cn A s ad h H locs) (hs : mi_rl ad cn st sw) (kk : mi_KH p l e R s m args below meth c Q D ids cn A ls ad pc' st' h' c' s') : W p l e R s m args below meth c H locs cells slots Q (F0 m pc ls sw) := by
  unfold mi_sld at hh
  split at hh
  next x j k r =>
    obtain ⟨ws, hrw, hP, hD, hS⟩ := hw
    obtain ⟨_, _, rfl, rfl, _, rw', rfl, rfl, hr⟩ := hs
    obtain ⟨-, -, -, -, hX, hlt, hnA⟩ := hG
    split at hh
    next hc =>
      obtain ⟨rfl, hin⟩ := hc
      cases hh
      exact va_sld hx hb hX hlt hnA hS (mi_inb_ok hin) hd (kk _ _ _ _ (mi_le_rf _) ⟨ws, hrw, hP, hD, hS⟩ (mi_rl_c rfl hr))
    next => cases hh
  next => cases hh
theorem mi_bld_ok (hx : p.tables.exec = Jvm.exec) (hb : c.code = cc) {X : mi_X} (hG : mi_Gc X cn A s s.heap) (hd : decode cc pc = .ok (.baload, 1)) (hh : mi_bld (pc + 1) st h cells slots = some (pc', st', h', c', s')) (hw : mi_Wd D ids cn A s ad h H locs) (hs : mi_rl ad cn st sw) (kk : mi_KH p l e R s m args below meth c Q D ids cn A ls ad pc' st' h' c' s') : W p l e R s m args below meth c H locs cells slots Q (F0 m pc ls sw) := by
  unfold mi_bld at hh
  split at hh
  next j k r =>
    obtain ⟨ws, hrw, hP, hD, hS⟩ := hw
    obtain ⟨_, _, rfl, rfl, _, rw', rfl, rfl, hr⟩ := hs
    split at hh
    next hc =>
      obtain ⟨hk, hn, hin⟩ := hc
      cases hh
      obtain ⟨-, -, -, g4⟩ := hG.1 (k / 4) hn
      rw [show 4 * (k / 4) + 1 = k by omega] at g4
      exact va_tb hx hb g4 hS (mi_inb_ok hin) rfl hd (kk _ _ _ _ (mi_le_rf _) ⟨ws, hrw, hP, hD, hS⟩ (mi_rl_c rfl hr))
    next => cases hh
  next => cases hh
theorem mi_qv_r {ad : List Nat} {cn : Nat → Nat} (o : Option Nat) : mi_rv ad cn (mi_qv o) (va_rf (o.map cn)) := by
  cases o with
  | none => exact rfl
  | some q => exact rfl
theorem mi_qld_ok (hx : p.tables.exec = Jvm.exec) (hb : c.code = cc) (hK : va_K D mi_cl (mi_tys ids) s) (hd : decode cc pc = .ok (.aaload, 1)) (hh : mi_qld (pc + 1) st h cells slots = some (pc', st', h', c', s')) (hw : mi_Wd D ids cn A s ad h H locs) (hs : mi_rl ad cn st sw) (kk : mi_KH p l e R s m args below meth c Q D ids cn A ls ad pc' st' h' c' s') : W p l e R s m args below meth c H locs cells slots Q (F0 m pc ls sw) := by
  unfold mi_qld at hh
  split at hh
  next j k r =>
    obtain ⟨ws, hrw, hP, hD, hS⟩ := hw
    obtain ⟨_, _, rfl, rfl, _, rw', rfl, ⟨a, ha, rfl⟩, hr⟩ := hs
    split at hh
    next t' n f hob =>
      split at hh
      next hc =>
        obtain ⟨rfl, hin⟩ := hc
        cases hh
        obtain ⟨a', e', g1, g2, g3⟩ := hrw.2.2 _ _ hob
        cases g1.symm.trans ha
        have g3 : e' = .inl (ids 4, n, .inr (.inr (.inr (.inr (fun i => (f i).map cn))))) := g3
        subst g3
        exact va_aldq hx hb hK hP k 4 g2 rfl (mi_inb_ok hin) hd (kk _ _ _ _ (mi_le_rf _) ⟨ws, hrw, hP, hD, hS⟩ (mi_rl_c (mi_qv_r _) hr))
      next => cases hh
    next => cases hh
  next => cases hh
theorem mi_qst_ok (hx : p.tables.exec = Jvm.exec) (hb : c.code = cc) (hK : va_K D mi_cl (mi_tys ids) s) {X : mi_X} (hG : mi_Gc X cn A s s.heap) (hd : decode cc pc = .ok (.aastore, 1)) (hh : mi_qst (pc + 1) st h cells slots = some (pc', st', h', c', s')) (hw : mi_Wd D ids cn A s ad h H locs) (hs : mi_rl ad cn st sw) (kk : mi_KH p l e R s m args below meth c Q D ids cn A ls ad pc' st' h' c' s') : W p l e R s m args below meth c H locs cells slots Q (F0 m pc ls sw) := by
  unfold mi_qst at hh
  split at hh
  next q j k r =>
    obtain ⟨ws, hrw, hP, hD, hS⟩ := hw
    obtain ⟨_, _, rfl, rfl, _, _, rfl, rfl, _, rw', rfl, ⟨a, ha, rfl⟩, hr⟩ := hs
    split at hh
    next t' n f hob =>
      split at hh
      next hc =>
        obtain ⟨rfl, hin, hq4, hqn⟩ := hc
        cases hh
        obtain ⟨a', e', g1, g2, g3⟩ := hrw.2.2 _ _ hob
        cases g1.symm.trans ha
        have g3 : e' = .inl (ids 4, n, .inr (.inr (.inr (.inr (fun i => (f i).map cn))))) := g3
        subst g3
        have hO := (hG.1 (q / 4) hqn).1
        rw [show 4 * (q / 4) = q by omega] at hO
        obtain ⟨cellV, o1, o2, o3, -⟩ := va_O.kept hO hS.2.1
        refine vb_astq (C := "java/lang/String") hx hb hK hP hD hS k 4 g2 rfl ⟨cellV, o1, o2, o3⟩ vb_asgS (mi_inb_ok hin) hd (fun H1 locs1 hP1 hD1 hS1 => kk _ _ _ _ (mi_le_rf _) ⟨_, mi_rw_set hrw ha ?_, hP1, hD1, hS1⟩ hr)
        refine congrArg (fun g : Nat → Option Nat => (Sum.inl (ids 4, n, .inr (.inr (.inr (.inr g)))) : va_E)) (funext fun i => ?_)
        by_cases hi : i = j.toNatClampNeg
        · subst hi
          simp [va_up]
        · simp [va_up, hi]
      next => cases hh
    next => cases hh
  next => cases hh
theorem mi_qnw_ok (hx : p.tables.exec = Jvm.exec) (hb : c.code = cc) {o : Nat} (ho : o < mi_no) (hown : s.vm.findClass (mi_on o) = some m.cls) (hts : ∀ w ∈ mi_need, w.before args s = true) (hAO : va_AO "java/lang/String" s) (hK : va_K D mi_cl (mi_tys ids) s) (hA : ∀ q, s.heap.size ≤ q → A q) (hRc : c' ≤ R.cells) (hRs : s' ≤ R.slots) {idx : Nat} (hd : decode cc pc = .ok (.anewarray idx, 3)) (hh : mi_qnw o idx (pc + 3) st h cells slots = some (pc', st', h', c', s')) (hw : mi_Wd D ids cn A s ad h H locs) (hs : mi_rl ad cn st sw) (kk : mi_KH p l e R s m args below meth c Q D ids cn A ls ad pc' st' h' c' s') : W p l e R s m args below meth c H locs cells slots Q (F0 m pc ls sw) := by
  unfold mi_qnw at hh
  split at hh
  next n r =>
    split at hh
    next hc =>
      obtain ⟨hlk, hin⟩ := hc
      cases hh
      have hin' := mi_inb_ok hin
      have h0 : ¬ n < 0 := fun q => hin' (Or.inl q)
      have h1 : n.toNatClampNeg < 200001 := Nat.not_le.mp fun q => hin' (Or.inr q)
      obtain ⟨ws, hrw, hP, hD, hS⟩ := hw
      obtain ⟨_, rw', rfl, rfl, hr⟩ := hs
      obtain ⟨x, hx1⟩ := Option.isSome_iff_exists.mp hlk
      have hm := mi_lk_mem hx1
      have hlink : (Cond.classLink (mi_on o) idx "java/lang/String").before args s = true := hts (mi_alw o (idx, x)) (mi_in2 ho (List.mem_append_right _ (List.mem_append_right _ (List.mem_append_right _ (List.mem_append_right _ (List.mem_append_left _ (List.mem_map.mpr ⟨_, hm, rfl⟩)))))))
      refine va_newq (C := "java/lang/String") hx hb hown hlink hAO hK hP hD hS hA h0 rfl ?_ hRc hRs hd (fun q cA H1 hK1 hP1 hD1 hS1 => ?_)
      · have := Nat.mul_le_mul (Nat.le_of_lt h1) (Nat.le_refl 4)
        exact Nat.le_trans this (Nat.le_of_ble_eq_true rfl)
      · obtain ⟨_, _, -, -, -, hid2⟩ := (hK1.2 5 _ rfl).2
        obtain ⟨_, _, -, -, -, hid⟩ := (hK.2 4 _ rfl).2
        have hcA : cA = ids 4 := Option.some.inj (hid2.symm.trans hid)
        subst hcA
        exact kk _ _ _ _ (mi_le_app _ q) ⟨_, mi_rw_push hrw (by rfl), hP1, hD1, hS1⟩ (mi_rl_c ⟨q, mi_last_ad hrw q, rfl⟩ (mi_rl_mono (mi_le_app _ q) hr))
    next => cases hh
  next => cases hh

theorem mi_iast_ok (hx : p.tables.exec = Jvm.exec) (hb : c.code = cc) (hK : va_K D mi_cl (mi_tys ids) s) (hd : decode cc pc = .ok (.iastore, 1)) (hh : mi_ast 0 (fun x => x) (pc + 1) st h cells slots = some (pc', st', h', c', s')) (hw : mi_Wd D ids cn A s ad h H locs) (hs : mi_rl ad cn st sw) (kk : mi_KH p l e R s m args below meth c Q D ids cn A ls ad pc' st' h' c' s') : W p l e R s m args below meth c H locs cells slots Q (F0 m pc ls sw) := by
  unfold mi_ast at hh
  split at hh
  next x j k r =>
    obtain ⟨ws, hrw, hP, hD, hS⟩ := hw
    obtain ⟨_, _, rfl, rfl, _, _, rfl, rfl, _, rw', rfl, ⟨a, ha, rfl⟩, hr⟩ := hs
    split at hh
    next t' n f hob =>
      split at hh
      next hc =>
        obtain ⟨rfl, hin⟩ := hc
        cases hh
        obtain ⟨a', e', g1, g2, g3⟩ := hrw.2.2 _ _ hob
        cases g1.symm.trans ha
        have g3 : e' = .inl (ids 0, n, .inl f) := g3
        subst g3
        exact va_iast hx hb hK hP hD hS k 0 g2 rfl (mi_inb_ok hin) hd (fun H1 locs1 hP1 hD1 hS1 => kk _ _ _ _ (mi_le_rf _) ⟨_, mi_rw_set hrw ha (by rfl), hP1, hD1, hS1⟩ hr)
      next => cases hh
    next => cases hh
  next => cases hh
theorem mi_bast_ok (hx : p.tables.exec = Jvm.exec) (hb : c.code = cc) (hK : va_K D mi_cl (mi_tys ids) s) (hd : decode cc pc = .ok (.bastore, 1)) (hh : mi_ast 2 (vp_nar .byte) (pc + 1) st h cells slots = some (pc', st', h', c', s')) (hw : mi_Wd D ids cn A s ad h H locs) (hs : mi_rl ad cn st sw) (kk : mi_KH p l e R s m args below meth c Q D ids cn A ls ad pc' st' h' c' s') : W p l e R s m args below meth c H locs cells slots Q (F0 m pc ls sw) := by
  unfold mi_ast at hh
  split at hh
  next x j k r =>
    obtain ⟨ws, hrw, hP, hD, hS⟩ := hw
    obtain ⟨_, _, rfl, rfl, _, _, rfl, rfl, _, rw', rfl, ⟨a, ha, rfl⟩, hr⟩ := hs
    split at hh
    next t' n f hob =>
      split at hh
      next hc =>
        obtain ⟨rfl, hin⟩ := hc
        cases hh
        obtain ⟨a', e', g1, g2, g3⟩ := hrw.2.2 _ _ hob
        cases g1.symm.trans ha
        have g3 : e' = .inl (ids 2, n, .inl f) := g3
        subst g3
        exact va_bast hx hb hK hP hD hS k 2 g2 rfl (mi_inb_ok hin) hd (fun H1 locs1 hP1 hD1 hS1 => kk _ _ _ _ (mi_le_rf _) ⟨_, mi_rw_set hrw ha (by rfl), hP1, hD1, hS1⟩ hr)
      next => cases hh
    next => cases hh
  next => cases hh
theorem mi_zast_ok (hx : p.tables.exec = Jvm.exec) (hb : c.code = cc) (hK : va_K D mi_cl (mi_tys ids) s) (hd : decode cc pc = .ok (.bastore, 1)) (hh : mi_ast 3 (vp_nar .boolean) (pc + 1) st h cells slots = some (pc', st', h', c', s')) (hw : mi_Wd D ids cn A s ad h H locs) (hs : mi_rl ad cn st sw) (kk : mi_KH p l e R s m args below meth c Q D ids cn A ls ad pc' st' h' c' s') : W p l e R s m args below meth c H locs cells slots Q (F0 m pc ls sw) := by
  unfold mi_ast at hh
  split at hh
  next x j k r =>
    obtain ⟨ws, hrw, hP, hD, hS⟩ := hw
    obtain ⟨_, _, rfl, rfl, _, _, rfl, rfl, _, rw', rfl, ⟨a, ha, rfl⟩, hr⟩ := hs
    split at hh
    next t' n f hob =>
      split at hh
      next hc =>
        obtain ⟨rfl, hin⟩ := hc
        cases hh
        obtain ⟨a', e', g1, g2, g3⟩ := hrw.2.2 _ _ hob
        cases g1.symm.trans ha
        have g3 : e' = .inl (ids 3, n, .inl f) := g3
        subst g3
        exact va_zast hx hb hK hP hD hS k 3 g2 rfl (mi_inb_ok hin) hd (fun H1 locs1 hP1 hD1 hS1 => kk _ _ _ _ (mi_le_rf _) ⟨_, mi_rw_set hrw ha (by rfl), hP1, hD1, hS1⟩ hr)
      next => cases hh
    next => cases hh
  next => cases hh
theorem mi_last_ok (hx : p.tables.exec = Jvm.exec) (hb : c.code = cc) (hK : va_K D mi_cl (mi_tys ids) s) (hd : decode cc pc = .ok (.lastore, 1)) (hh : mi_last (pc + 1) st h cells slots = some (pc', st', h', c', s')) (hw : mi_Wd D ids cn A s ad h H locs) (hs : mi_rl ad cn st sw) (kk : mi_KH p l e R s m args below meth c Q D ids cn A ls ad pc' st' h' c' s') : W p l e R s m args below meth c H locs cells slots Q (F0 m pc ls sw) := by
  unfold mi_last at hh
  split at hh
  next x j k r =>
    obtain ⟨ws, hrw, hP, hD, hS⟩ := hw
    obtain ⟨_, _, rfl, rfl, _, _, rfl, rfl, _, rw', rfl, ⟨a, ha, rfl⟩, hr⟩ := hs
    split at hh
    next t' n f hob =>
      split at hh
      next hc =>
        obtain ⟨rfl, hin⟩ := hc
        cases hh
        obtain ⟨a', e', g1, g2, g3⟩ := hrw.2.2 _ _ hob
        cases g1.symm.trans ha
        have g3 : e' = .inl (ids 1, n, .inr (.inl f)) := g3
        subst g3
        exact va_last hx hb hK hP hD hS k 1 g2 rfl (mi_inb_ok hin) hd (fun H1 locs1 hP1 hD1 hS1 => kk _ _ _ _ (mi_le_rf _) ⟨_, mi_rw_set hrw ha (by rfl), hP1, hD1, hS1⟩ hr)
      next => cases hh
    next => cases hh
  next => cases hh
theorem mi_tys_at {ids : Nat → ClassId} {t : Nat} (h : t < 4) : ∃ ty, (mi_tys ids)[t]? = some (ids t, ty) := by
  match t, h with
  | 0, _ => exact ⟨_, rfl⟩
  | 1, _ => exact ⟨_, rfl⟩
  | 2, _ => exact ⟨_, rfl⟩
  | 3, _ => exact ⟨_, rfl⟩
theorem mi_alen_ok (hx : p.tables.exec = Jvm.exec) (hb : c.code = cc) (hK : va_K D mi_cl (mi_tys ids) s) {X : mi_X} (hG : mi_Gc X cn A s s.heap) (hd : decode cc pc = .ok (.arraylength, 1)) (hh : mi_alen X (pc + 1) st h cells slots = some (pc', st', h', c', s')) (hw : mi_Wd D ids cn A s ad h H locs) (hs : mi_rl ad cn st sw) (kk : mi_KH p l e R s m args below meth c Q D ids cn A ls ad pc' st' h' c' s') : W p l e R s m args below meth c H locs cells slots Q (F0 m pc ls sw) := by
  obtain ⟨ws, hrw, hP, hD, hS⟩ := hw
  unfold mi_alen at hh
  split at hh
  next k r =>
    obtain ⟨_, rw', rfl, ⟨a, ha, rfl⟩, hr⟩ := hs
    split at hh
    next t' n f hob =>
      split at hh
      next hc =>
        cases hh
        obtain ⟨a', e', g1, g2, g3⟩ := hrw.2.2 _ _ hob
        cases g1.symm.trans ha
        have g3 : e' = .inl (ids t', n, .inl f) := g3
        subst g3
        obtain ⟨ty, hty⟩ := mi_tys_at (ids := ids) hc
        exact va_alen hx hb hK hP k t' g2 hty rfl hd (kk _ _ _ _ (mi_le_rf _) ⟨ws, hrw, hP, hD, hS⟩ (mi_rl_c rfl hr))
      next => cases hh
    next t' n f hob =>
      split at hh
      next hc =>
        cases hh
        obtain ⟨a', e', g1, g2, g3⟩ := hrw.2.2 _ _ hob
        cases g1.symm.trans ha
        have g3 : e' = .inl (ids t', n, .inr (.inl f)) := g3
        subst g3
        obtain ⟨ty, hty⟩ := mi_tys_at (ids := ids) hc
        exact va_alen hx hb hK hP k t' g2 hty rfl hd (kk _ _ _ _ (mi_le_rf _) ⟨ws, hrw, hP, hD, hS⟩ (mi_rl_c rfl hr))
      next => cases hh
    next => cases hh
  next k r =>
    obtain ⟨_, rw', rfl, rfl, hr⟩ := hs
    split at hh
    next hc =>
      cases hh
      obtain ⟨-, -, -, g4⟩ := hG.1 (k / 4) hc.2
      rw [show 4 * (k / 4) + 1 = k by omega] at g4
      exact va_tlen hx hb g4 hS rfl hd (kk _ _ _ _ (mi_le_rf _) ⟨ws, hrw, hP, hD, hS⟩ (mi_rl_c rfl hr))
    next =>
      split at hh
      next x =>
        split at hh
        next hc =>
          cases hh
          subst hc
          obtain ⟨-, -, -, -, hX, hlt, hnA⟩ := hG
          exact va_slen hx hb hX hlt hnA hS hd (kk _ _ _ _ (mi_le_rf _) ⟨ws, hrw, hP, hD, hS⟩ (mi_rl_c rfl hr))
        next => cases hh
      next => cases hh
  next => cases hh

end MIH
