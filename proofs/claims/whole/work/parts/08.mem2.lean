section MIH
variable {p : Program} {l : Launch} {e : Env} {R : Room} {s : State} {m : MethodId} {args : Array Value} {below : List Frame} {meth : Method} {c : Code} {H : Heap} {locs : List Loc} {cells slots : Nat} {Q : State → Prop}
variable {cc : ByteArray} {pc pc' c' s' : Nat} {st st' : List Value} {h h' : mi_H} {ad : List Nat} {cn : Nat → Nat} {ids : Nat → ClassId} {D : va_G} {A : Nat → Prop} {sw : List Value} {ls : Array Slot}
/-- the way on behind an instruction that may write or make cells -/
abbrev mi_KH (p : Program) (l : Launch) (e : Env) (R : Room) (s : State) (m : MethodId) (args : Array Value) (below : List Frame) (meth : Method) (c : Code) (Q : State → Prop) (D : va_G) (ids : Nat → ClassId) (cn : Nat → Nat) (A : Nat → Prop) (ls : Array Slot) (ad : List Nat) (pc' : Nat) (st' : List Value) (h' : mi_H) (c' s' : Nat) : Prop :=
  ∀ (H' : Heap) (locs' : List Loc) (ad' : List Nat) (sw' : List Value), mi_le ad ad' → mi_Wd D ids cn A s ad' h' H' locs' → mi_rl ad' cn st' sw' → W p l e R s m args below meth c H' locs' c' s' Q (F0 m pc' ls sw')

theorem mi_gf_ok (hx : p.tables.exec = Jvm.exec) (hb : c.code = cc) {o : Nat} (ho : o < mi_no) (hown : s.vm.findClass (mi_on o) = some m.cls) (hts : ∀ w ∈ mi_need, w.before args s = true) (hK : va_K D mi_cl (mi_tys ids) s) {ci j k idx : Nat} {q : vw_C} {r : List Value} (hq : mi_cl[ci]? = some q) (hj : j < q.2.2)
    (hlink : (Cond.fieldLink (mi_on o) idx q.1 (q.2.1 j).2.1 (q.2.1 j).2.2.1).before args s = true ∨ (Cond.fieldLinkNest (mi_on o) idx q.1 (q.2.1 j).2.1 (q.2.1 j).2.2.1 "TypeLoom").before args s = true)
    (hd : decode cc pc = .ok (.getfield idx, 3)) (hh : mi_gf ci j k (pc + 3) r h cells slots = some (pc + 3, st', h', c', s')) (hst : st = .ref k :: r) (hw : mi_Wd D ids cn A s ad h H locs) (hs : mi_rl ad cn st sw) (kk : mi_KH p l e R s m args below meth c Q D ids cn A ls ad (pc + 3) st' h' c' s') : W p l e R s m args below meth c H locs cells slots Q (F0 m pc ls sw) := by
  subst hst
  obtain ⟨hqm, hty, hnm, hT1, -⟩ := mi_clok hq
  obtain ⟨ws, hrw, hP, hD, hS⟩ := hw
  obtain ⟨_, rw', rfl, ⟨a, ha, rfl⟩, hr⟩ := hs
  unfold mi_gf at hh
  split at hh
  next ob hob =>
    split at hh
    next hci =>
      split at hh
      next v hv =>
        cases hh
        obtain ⟨a', e', g1, g2, gs, rfl, g4⟩ := hrw.2.2 _ _ hob
        cases g1.symm.trans ha
        obtain ⟨wv, hwv, hrv⟩ := mi_rl_get g4 hv
        subst hci
        have go := kk _ _ _ _ (mi_le_rf _) ⟨ws, hrw, hP, hD, hS⟩ (mi_rl_c hrv hr)
        have hsame : ∀ x, s.fieldFound? (q.2.1 j).1 (q.2.1 j).2.1 (q.2.1 j).2.2.1 = some x → s.fieldFound? q.1 (q.2.1 j).2.1 (q.2.1 j).2.2.1 = some x := fun x hx => by rw [hT1 j hj] at hx; exact hx
        rcases hlink with hlink | hlink
        · exact va_get (C := q.1) (T := q.2.1) (N := q.2.2) (ref := q.1) (index := idx) hx hb hts (fun w hw => mi_in0 hqm (List.mem_append_left _ hw)) hown hK hP k g2 hq j hj hlink hsame hwv hd go
        · exact va_getN (host := "TypeLoom") (C := q.1) (T := q.2.1) (N := q.2.2) (ref := q.1) (index := idx) hx hb hts (fun w hw => mi_in0 hqm (List.mem_append_left _ hw)) hown hK hP k g2 hq j hj hlink hsame hwv hd go
      next => cases hh
    next => cases hh
  next => cases hh
/-- the tables' field rows name fields -/
theorem mi_fl_ok : ∀ o, o < mi_no → ∀ x ∈ mi_fl o, (match mi_cl[x.2.1]? with | some q => decide (x.2.2 < q.2.2) | none => false) = true := by decide +kernel
theorem mi_nf_ok : ∀ o, o < mi_no → ∀ x ∈ mi_nf o, (match mi_cl[x.2.1]? with | some q => decide (x.2.2 < q.2.2) | none => false) = true := by decide +kernel
theorem mi_getf_ok (hx : p.tables.exec = Jvm.exec) (hb : c.code = cc) {o : Nat} (ho : o < mi_no) (hown : s.vm.findClass (mi_on o) = some m.cls) (hts : ∀ w ∈ mi_need, w.before args s = true) (hK : va_K D mi_cl (mi_tys ids) s) (hbad : ∀ w ∈ mi_bad, w.before args s = true) (hA : ∀ a, s.heap.size ≤ a → A a) {X : mi_X} (hG : mi_Gc X cn A s s.heap) {idx : Nat} (hd : decode cc pc = .ok (.getfield idx, 3)) (hh : mi_getf o idx (pc + 3) st h cells slots = some (pc', st', h', c', s')) (hw : mi_Wd D ids cn A s ad h H locs) (hs : mi_rl ad cn st sw) (kk : mi_KH p l e R s m args below meth c Q D ids cn A ls ad (pc + 3) st' h' c' s') : W p l e R s m args below meth c H locs cells slots Q (F0 m pc ls sw) := by
  unfold mi_getf at hh
  split at hh
  next k r =>
    split at hh
    next x hf =>
      have hm := mi_lk_mem hf
      have h1 := mi_fl_ok o ho _ hm
      split at h1
      next q hq =>
        simp only [decide_eq_true_eq] at h1
        have hlink := hts (mi_flw o (idx, x)) (mi_in2 ho (List.mem_append_left _ (List.mem_map.mpr ⟨_, hm, rfl⟩)))
        unfold mi_flw at hlink
        rw [show mi_cl[((idx, x) : Nat × Nat × Nat).2.1]? = some q from hq] at hlink
        have hpc : pc' = pc + 3 := by
          unfold mi_gf at hh
          split at hh <;> first | (cases hh; done) | skip
          split at hh <;> first | (cases hh; done) | skip
          split at hh <;> first | (cases hh; done) | skip
          cases hh; rfl
        subst hpc
        exact mi_gf_ok hx hb ho hown hts hK hq h1 (Or.inl hlink) hd hh rfl hw hs kk
      next => cases h1
    next =>
      split at hh
      next x hf =>
        have hm := mi_lk_mem hf
        have h1 := mi_nf_ok o ho _ hm
        split at h1
        next q hq =>
          simp only [decide_eq_true_eq] at h1
          have hlink := hbad (mi_nfw o (idx, x)) (List.mem_append_left _ (List.mem_flatMap.mpr ⟨o, List.mem_range.mpr ho, List.mem_append_left _ (List.mem_map.mpr ⟨_, hm, rfl⟩)⟩))
          unfold mi_nfw at hlink
          rw [show mi_cl[((idx, x) : Nat × Nat × Nat).2.1]? = some q from hq] at hlink
          have hpc : pc' = pc + 3 := by
            unfold mi_gf at hh
            split at hh <;> first | (cases hh; done) | skip
            split at hh <;> first | (cases hh; done) | skip
            split at hh <;> first | (cases hh; done) | skip
            cases hh; rfl
          subst hpc
          exact mi_gf_ok hx hb ho hown hts hK hq h1 (Or.inr hlink) hd hh rfl hw hs kk
        next => cases h1
      next => cases hh
  next k r =>
    split at hh
    next j hf =>
      have hm := mi_lk_mem hf
      unfold mi_gs at hh
      split at hh
      next hk =>
        obtain ⟨hk4, hkn⟩ := hk
        have hlink := hts (mi_sfw o (idx, j)) (mi_in2 ho (List.mem_append_right _ (List.mem_append_right _ (List.mem_append_right _ (List.mem_append_right _ (List.mem_append_right _ (List.mem_append_right _ (List.mem_append_left _ (List.mem_map.mpr ⟨_, hm, rfl⟩)))))))))
        obtain ⟨ws, hrw, hP, hD, hS⟩ := hw
        obtain ⟨_, rw', rfl, rfl, hr⟩ := hs
        have hke : 4 * (k / 4) = k := by omega
        obtain ⟨-, g2, g3, -⟩ := hG.1 (k / 4) hkn
        rw [hke] at g2 g3
        split at hh
        next hj0 =>
          cases hh
          subst hj0
          have hlink : (Cond.fieldLink (mi_on o) idx "java/lang/String" "value" "[B").before args s = true := hlink
          exact vk_getf hx hb g3 hS hown hlink (fun _ hx => hx) hd (kk _ _ _ _ (mi_le_rf _) ⟨ws, hrw, hP, hD, hS⟩ (mi_rl_c rfl hr))
        next =>
          split at hh
          next hj1 =>
            cases hh
            subst hj1
            have hlink : (Cond.fieldLink (mi_on o) idx "java/lang/String" "coder" "B").before args s = true := hlink
            exact vk_getf hx hb g2 hS hown hlink (fun _ hx => hx) hd (kk _ _ _ _ (mi_le_rf _) ⟨ws, hrw, hP, hD, hS⟩ (mi_rl_c rfl hr))
          next => cases hh
      next => cases hh
    next => cases hh
  next => cases hh

end MIH